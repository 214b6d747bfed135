def w_s_atom10_2 : List Cond := .code yX10_atom cX10_atom 4 (some .int) :: wf_md
theorem gw_s_atom10_2 : (w_s_atom10_2).all goodWord = true := kFamG rfl gf_md
set_option maxHeartbeats 4000000 in
set_option maxRecDepth 100000 in
theorem s_atom10_2 (l : Launch) (dC : Nat → ClassId) (dI : Nat → Nat → Nat) (jM : Nat) (vs : Nat → Value) (v14 : Value) (v15 : Value) (v18 : Value) (lt : Nat) (q6 : Nat) (q7 : Nat) (tx : Nat) (cT : ClassId) (nT : Nat) (gT : Nat → Int32) (be : Nat) (en : Nat) (a : Nat) (hbe : be + en ≤ nT) (hnT : nT ≤ 1680) (ha : a ≤ en) (cE : ClassId) (gE : Nat → Int32) (b6 : Nat) (n6 : Nat) (g6 : Nat → Int32) (hn6 : n6 ≤ 8) (hg6 : ∀ k : Nat, ∃ v : Nat, v < 128 ∧ g6 k = nI v) (b7 : Nat) (n7 : Nat) (g7 : Nat → Int32) (hn7 : n7 ≤ 8) (hg7 : ∀ k : Nat, ∃ v : Nat, v < 128 ∧ g7 k = nI v) (sz : Nat) : Met l yX10_atom w_s_atom10_2 ({ frames := 35, cells := 0, slots := 0, locals := 2100 }) (kW dC dI [.ref jM] [(jM, kMo vs (.ref lt) (.ref tx) (.int (nI (be))) (.int (nI (en))) (.int (nI (a))) (.int (-1)) (.int 2) v14 v15 (.ref q6) (.ref q7) v18), (tx, .inl (cT, nT, .inl gT)), (lt, .inl (cE, 128, .inl gE))] [(cT, .byte), (cE, .int)] (kS2 q6 b6 n6 g6 q7 b7 n7 g7 (va_A [(jM, kMo vs (.ref lt) (.ref tx) (.int (nI (be))) (.int (nI (en))) (.int (nI (a))) (.int (-1)) (.int 2) v14 v15 (.ref q6) (.ref q7) v18), (tx, .inl (cT, nT, .inl gT)), (lt, .inl (cE, 128, .inl gE))] sz)) sz) (va_Qi (fun (r : Int32) (u : Nat × Int32 × Int32) => match u with | (a1, xf, xd) => ((a ≤ a1 ∧ a1 ≤ en) ∧ (xf = -1 → xd = 2))) (fun (u : Nat × Int32 × Int32) => match u with | (a1, xf, xd) => fun t : State => kB dC dI [(jM, kMo vs (.ref lt) (.ref tx) (.int (nI (be))) (.int (nI (en))) (.int (nI (a1))) (.int xf) (.int xd) v14 v15 (.ref q6) (.ref q7) v18), (tx, .inl (cT, nT, .inl gT)), (lt, .inl (cE, 128, .inl gE))] [(cT, .byte), (cE, .int)] (va_A [(jM, kMo vs (.ref lt) (.ref tx) (.int (nI (be))) (.int (nI (en))) (.int (nI (a))) (.int (-1)) (.int 2) v14 v15 (.ref q6) (.ref q7) v18), (tx, .inl (cT, nT, .inl gT)), (lt, .inl (cE, 128, .inl gE))] sz) t) (va_A [(jM, kMo vs (.ref lt) (.ref tx) (.int (nI (be))) (.int (nI (en))) (.int (nI (a))) (.int (-1)) (.int 2) v14 v15 (.ref q6) (.ref q7) v18), (tx, .inl (cT, nT, .inl gT)), (lt, .inl (cE, 128, .inl gE))] sz)) 0 0 (va_A [(jM, kMo vs (.ref lt) (.ref tx) (.int (nI (be))) (.int (nI (en))) (.int (nI (a))) (.int (-1)) (.int 2) v14 v15 (.ref q6) (.ref q7) v18), (tx, .inl (cT, nT, .inl gT)), (lt, .inl (cE, 128, .inl gE))] sz) := by
  refine Met.ofW (cc := cX10_atom) (maxL := 4) (ret := (some .int)) (by decide) rfl ?_
  intro p e s m args below meth c s₁ B hml hv
  obtain ⟨rfl, hsz, hP, hK, hD0, hX⟩ := hv
  have hx := B.exec
  have hb := B.bytes
  have hr := B.returns
  have hts := atoms_spec (ws := w_s_atom10_2) B.pre
  have hown : s.vm.findClass RX10 = some m.cls := findClass_of_methodNamed B.named
  have hlocks := B.notSynchronized
  subst hsz
  have hD := hD0.self (sz := s.heap.size)
  generalize hAe : va_A [(jM, kMo vs (.ref lt) (.ref tx) (.int (nI (be))) (.int (nI (en))) (.int (nI (a))) (.int (-1)) (.int 2) v14 v15 (.ref q6) (.ref q7) v18), (tx, .inl (cT, nT, .inl gT)), (lt, .inl (cE, 128, .inl gE))] s.heap.size = A at hD hX ⊢
  have hA : ∀ q : Nat, s.heap.size ≤ q → A q := fun q h => by rw [← hAe]; exact Or.inr h
  have hS : va_S A s.heap s.heap [] := va_S.rf
  have hP : va_P (dC, dI) vwCl [(jM, kMo vs (.ref lt) (.ref tx) (.int (nI (be))) (.int (nI (en))) (.int (nI (a))) (.int (-1)) (.int 2) v14 v15 (.ref q6) (.ref q7) v18), (tx, .inl (cT, nT, .inl gT)), (lt, .inl (cE, 128, .inl gE))] s.heap := hP
  have hl := lv_entry ([.ref jM]) (n := 4) (Nat.le_of_ble_eq_true rfl)
  rw [lg_entry_eq]
  generalize (lg_sl ([.ref jM]) ++ List.replicate (4 - (lg_sl ([.ref jM])).length) Slot.unset).toArray = ls at hl ⊢
  have hl : lv_has ls 4 [(0, .ref jM)] := hl
  refine kQ (fun Q hQ => ?_)
  refine lv_aload_n hx hb dX10_atom_0 rfl (lv_at hl 0 rfl) ?_
  obtain ⟨hPc, hDc, hFc⟩ := kCut (wc := [(jM, kMo vs (.ref lt) (.ref tx) (.int (nI (be))) (.int (nI (en))) (.int (nI (a))) (.int (-1)) (.int 2) v14 v15 (.ref q6) (.ref q7) v18), (tx, .inl (cT, nT, .inl gT))]) hP hD hS hA [0, 1] rfl (by decide) rfl
  have hKc := hK.sb (tys2 := [(cT, .byte)]) [0] rfl
  refine va_calli (va_runV (As := []) (rest := []) ⟨hx, hb, hml, hown, hts⟩ (s_look10 l dC dI jM vs (.int (-1) : Value) (.int 2 : Value) (v14 : Value) (v15 : Value) (v18 : Value) lt q6 q7 tx cT nT gT be en a (by omega) (by omega) (by omega) s.heap.size) (cwV 0 hts (kG (List.forall_mem_cons.mpr ⟨(List.mem_cons_of_mem _ (List.mem_append_left _ (List.mem_of_getElem? (i := 3) rfl))), (List.forall_mem_cons.mpr ⟨(List.mem_cons_of_mem _ (List.mem_append_left _ (List.mem_of_getElem? (i := 2) rfl))), (List.forall_mem_cons.mpr ⟨(List.mem_cons_of_mem _ (List.mem_append_left _ (List.mem_of_getElem? (i := 1) rfl))), (List.forall_mem_cons.mpr ⟨(List.mem_cons_of_mem _ (List.mem_append_left _ (List.mem_of_getElem? (i := 0) rfl))), (fun _ h => absurd h List.not_mem_nil)⟩)⟩)⟩)⟩) (kGV _ _ _ _) (fun _ h => List.mem_cons_of_mem _ (List.mem_append_right _ (List.mem_append_left _ h))) gw_s_look10) rfl rfl rfl ⟨rfl, hd_X10_look⟩ ⟨(Nat.le_of_ble_eq_true rfl), (Nat.le_of_ble_eq_true rfl)⟩) (kW_V kT_blind kT_give (va_recv hKc hPc (ci := 10) (q0 := 0) rfl rfl) hPc hKc hDc) rfl rfl hl.1 rfl (lv_room (Nat.le_of_ble_eq_true rfl)) dX10_atom_1 ⟨(Nat.le_of_ble_eq_true rfl), (Nat.le_of_ble_eq_true rfl)⟩) hS (fun q _ h => hFc q h) hFc (fun r_1 u t H1 locs ht hvm hw hB hz1 hk1 hS => ?_)
  obtain ⟨a1_2, rfl⟩ : ∃ z, z = u := ⟨_, rfl⟩
  obtain ⟨hP1, hK1, hD1⟩ := hB
  rw [ht] at hP1
  try dsimp only at hw
  obtain ⟨hP, hD⟩ : kPD dC dI A [(jM, kMo vs (.ref lt) (.ref tx) (.int (nI (be))) (.int (nI (en))) (.int (nI (a1_2))) (.int (-1)) (.int 2) (v14 : Value) (v15 : Value) (.ref q6) (.ref q7) (v18 : Value)), (tx, .inl (cT, nT, .inl gT)), (lt, .inl (cE, 128, .inl gE))] H1 := kJoinI hP hD [0, 1] rfl hk1 hFc hP1 hD1 rfl [some 0, some 1, none] rfl rfl
  generalize H1 = H at hP hS ⊢
  have hw_3 := hw
  have hw_3_3 := hw_3.2.1
  refine lv_istore_n hx hb dX10_atom_4 rfl hl (by decide) (kTo [(1, .int r_1), (0, .ref jM)]) (fun ls hl => ?_)
  refine lv_aload_n hx hb dX10_atom_5 rfl (lv_at hl 1 rfl) ?_
  refine va_get (D := (dC, dI)) (ci := 10) (v := .ref q7) (C := RX10) (T := TX10) (N := 52) hx hb hts (fun _ h => List.mem_cons_of_mem _ (List.mem_append_right _ (List.mem_append_right _ (List.mem_append_left _ h)))) hown hK hP 0 rfl rfl 17 (by decide) (hts (.fieldLink RX10 34 "NotEndedModel" "allowed" "Ljava/lang/String;") (List.mem_cons_of_mem _ (List.mem_append_left _ (List.mem_of_getElem? (i := 4) rfl)))) (fun _ h9 => h9) rfl dX10_atom_6 ?_
  refine lv_iload_n hx hb dX10_atom_9 rfl (lv_at hl 0 rfl) ?_
  have hPc := hP.sb (ws2 := []) [] rfl
  have hKc := hK.sb (tys2 := []) [] rfl
  refine vp_callSi (va_runS (As := [.ref q7, .int r_1]) (rest := []) ⟨hx, hb, hml, hown, hts⟩ (s_among10 l dC dI q7 b7 n7 g7 hn7 A hg7 r_1) (va_cwS 2 hts (kG (List.forall_mem_cons.mpr ⟨(List.mem_cons_of_mem _ (List.mem_append_left _ (List.mem_of_getElem? (i := 6) rfl))), (List.forall_mem_cons.mpr ⟨(List.mem_cons_of_mem _ (List.mem_append_left _ (List.mem_of_getElem? (i := 5) rfl))), (List.forall_mem_cons.mpr ⟨(List.mem_cons_of_mem _ (List.mem_append_left _ (List.mem_of_getElem? (i := 0) rfl))), (fun _ h => absurd h List.not_mem_nil)⟩)⟩)⟩) (kGS _ _ _) (fun _ h => List.mem_cons_of_mem _ (List.mem_append_right _ (List.mem_append_right _ (List.mem_append_right _ (List.mem_append_left _ h))))) gw_s_among10) rfl rfl rfl hd_X10_isAmong ⟨(Nat.le_of_ble_eq_true rfl), (Nat.le_of_ble_eq_true rfl)⟩) (kR_S kSt_blind (kSt_give hX.2 hS) hPc hKc) rfl rfl hl.1 rfl (lv_room (Nat.le_of_ble_eq_true rfl)) dX10_atom_10 ⟨(Nat.le_of_ble_eq_true rfl), (Nat.le_of_ble_eq_true rfl)⟩).run (fun r_4 hw => ?_)
  have hw_5 := hw
  refine lv_if_eq (tgt := 33) hx hb dX10_atom_13 (by decide) (fun c_6 => ?_) (fun c_6 => ?_)
  · refine lv_iload_n hx hb dX10_atom_33 rfl (lv_at hl 0 rfl) ?_
    refine lv_bipush (v := 91) hx hb dX10_atom_34 (by decide) ?_
    refine lv_icmp_ne (tgt := 76) hx hb dX10_atom_36 (by decide) (fun c_7 => ?_) (fun c_7 => ?_)
    · refine lv_aload_n hx hb dX10_atom_76 rfl (lv_at hl 1 rfl) ?_
      have hPc := hP.sb (ws2 := [(jM, kMo vs (.ref lt) (.ref tx) (.int (nI (be))) (.int (nI (en))) (.int (nI (a1_2))) (.int (-1)) (.int 2) (v14 : Value) (v15 : Value) (.ref q6) (.ref q7) (v18 : Value)), (tx, .inl (cT, nT, .inl gT))]) [0, 1] rfl
      have hKc := hK.sb (tys2 := [(cT, .byte)]) [0] rfl
      refine vp_callSi (va_runV (As := []) (rest := []) ⟨hx, hb, hml, hown, hts⟩ (s_isDigit10 l dC dI jM vs (.int (-1) : Value) (.int 2 : Value) ((v14 : Value) : Value) ((v15 : Value) : Value) ((v18 : Value) : Value) lt q6 q7 tx cT nT gT be en a1_2 (by omega) (by omega) (by omega)) (cwV 0 hts (kG (List.forall_mem_cons.mpr ⟨(List.mem_cons_of_mem _ (List.mem_append_left _ (List.mem_of_getElem? (i := 9) rfl))), (List.forall_mem_cons.mpr ⟨(List.mem_cons_of_mem _ (List.mem_append_left _ (List.mem_of_getElem? (i := 8) rfl))), (List.forall_mem_cons.mpr ⟨(List.mem_cons_of_mem _ (List.mem_append_left _ (List.mem_of_getElem? (i := 7) rfl))), (List.forall_mem_cons.mpr ⟨(List.mem_cons_of_mem _ (List.mem_append_left _ (List.mem_of_getElem? (i := 0) rfl))), (fun _ h => absurd h List.not_mem_nil)⟩)⟩)⟩)⟩) (kGV _ _ _ _) (fun _ h => List.mem_cons_of_mem _ (List.mem_append_right _ (List.mem_append_right _ (List.mem_append_right _ (List.mem_append_right _ (List.mem_append_left _ h)))))) gw_s_isDigit10) rfl rfl rfl ⟨rfl, hd_X10_isDigit⟩ ⟨(Nat.le_of_ble_eq_true rfl), (Nat.le_of_ble_eq_true rfl)⟩) (kR_V kT_blind kT_give (va_recv hKc hPc (ci := 10) (q0 := 0) rfl rfl) hPc hKc) rfl rfl hl.1 rfl (lv_room (Nat.le_of_ble_eq_true rfl)) dX10_atom_77 ⟨(Nat.le_of_ble_eq_true rfl), (Nat.le_of_ble_eq_true rfl)⟩).run (fun r_8 hw => ?_)
      have hw_9 := hw
      refine lv_if_ne (tgt := 88) hx hb dX10_atom_80 (by decide) (fun c_10 => ?_) (fun c_10 => ?_)
      · have hd_11 := hw_9.2 c_10
        refine lv_iconst (v := 0) hx hb dX10_atom_88 (by decide) ?_
        refine lv_istore_n hx hb dX10_atom_89 rfl hl (by decide) (kTo [(2, .int 0), (1, .int r_1), (0, .ref jM)]) (fun ls hl => ?_)
        refine lv_iconst (v := 0) hx hb dX10_atom_90 (by decide) ?_
        refine lv_istore_n hx hb dX10_atom_91 rfl hl (by decide) (kTo [(3, .int 0), (2, .int 0), (1, .int r_1), (0, .ref jM)]) (fun ls hl => ?_)
        have lp_k_12 : ∀ (n9 : Nat) (i : Nat) (lf : Int32) (ld : Int32) (xv : Int32) (xg : Int32) (ivk_12_0 : (a ≤ i ∧ i ≤ en)) (ivk_12_1 : (lf = -1 → ld = 2)) (H : Heap) (locs : List Loc) (_ : va_P (dC, dI) vwCl [(jM, kMo vs (.ref lt) (.ref tx) (.int (nI (be))) (.int (nI (en))) (.int (nI (i))) (.int lf) (.int ld) (v14 : Value) (v15 : Value) (.ref q6) (.ref q7) (v18 : Value)), (tx, .inl (cT, nT, .inl gT)), (lt, .inl (cE, 128, .inl gE))] H) (_ : va_D A [(jM, kMo vs (.ref lt) (.ref tx) (.int (nI (be))) (.int (nI (en))) (.int (nI (i))) (.int lf) (.int ld) (v14 : Value) (v15 : Value) (.ref q6) (.ref q7) (v18 : Value)), (tx, .inl (cT, nT, .inl gT)), (lt, .inl (cE, 128, .inl gE))]) (_ : va_S A s.heap H locs) (ls : Array Slot) (_ : lv_has ls 4 [(3, .int xg), (2, .int xv), (1, .int r_1), (0, .ref jM)]) (_ : en - i < n9), W p l e (headSpec w_s_atom10_2 ({ frames := 35, cells := 0, slots := 0, locals := 2100 })).room s m (#[.ref jM] : Array Value) below meth c H locs 0 0 Q (F0 m 92 ls []) := by
          intro n9
          induction n9 with
          | zero => intro i lf ld xv xg ivk_12_0 ivk_12_1 H locs hP hD hS ls hl hm9; exact absurd hm9 (Nat.not_lt_zero _)
          | succ n9 ih_k_12 =>
            intro i lf ld xv xg ivk_12_0 ivk_12_1 H locs hP hD hS ls hl hm9
            refine lv_aload_n hx hb dX10_atom_92 rfl (lv_at hl 3 rfl) ?_
            have hPc := hP.sb (ws2 := [(jM, kMo vs (.ref lt) (.ref tx) (.int (nI (be))) (.int (nI (en))) (.int (nI (i))) (.int lf) (.int ld) (v14 : Value) (v15 : Value) (.ref q6) (.ref q7) (v18 : Value)), (tx, .inl (cT, nT, .inl gT))]) [0, 1] rfl
            have hKc := hK.sb (tys2 := [(cT, .byte)]) [0] rfl
            refine vp_callSi (va_runV (As := []) (rest := []) ⟨hx, hb, hml, hown, hts⟩ (s_isDigit10 l dC dI jM vs (.int lf : Value) (.int ld : Value) ((v14 : Value) : Value) ((v15 : Value) : Value) ((v18 : Value) : Value) lt q6 q7 tx cT nT gT be en i (by omega) (by omega) (by omega)) (cwV 0 hts (kG (List.forall_mem_cons.mpr ⟨(List.mem_cons_of_mem _ (List.mem_append_left _ (List.mem_of_getElem? (i := 9) rfl))), (List.forall_mem_cons.mpr ⟨(List.mem_cons_of_mem _ (List.mem_append_left _ (List.mem_of_getElem? (i := 8) rfl))), (List.forall_mem_cons.mpr ⟨(List.mem_cons_of_mem _ (List.mem_append_left _ (List.mem_of_getElem? (i := 7) rfl))), (List.forall_mem_cons.mpr ⟨(List.mem_cons_of_mem _ (List.mem_append_left _ (List.mem_of_getElem? (i := 0) rfl))), (fun _ h => absurd h List.not_mem_nil)⟩)⟩)⟩)⟩) (kGV _ _ _ _) (fun _ h => List.mem_cons_of_mem _ (List.mem_append_right _ (List.mem_append_right _ (List.mem_append_right _ (List.mem_append_right _ (List.mem_append_left _ h)))))) gw_s_isDigit10) rfl rfl rfl ⟨rfl, hd_X10_isDigit⟩ ⟨(Nat.le_of_ble_eq_true rfl), (Nat.le_of_ble_eq_true rfl)⟩) (kR_V kT_blind kT_give (va_recv hKc hPc (ci := 10) (q0 := 0) rfl rfl) hPc hKc) rfl rfl hl.1 rfl (lv_room (Nat.le_of_ble_eq_true rfl)) dX10_atom_93 ⟨(Nat.le_of_ble_eq_true rfl), (Nat.le_of_ble_eq_true rfl)⟩).run (fun r_13 hw => ?_)
            have hw_14 := hw
            refine lv_if_eq (tgt := 158) hx hb dX10_atom_96 (by decide) (fun c_15 => ?_) (fun c_15 => ?_)
            · refine lv_iload_n hx hb dX10_atom_158 rfl (lv_at hl 1 rfl) ?_
              have hP9 := hP
              have hD9 := hD
              have hK9 := hK
              rw [hQ]
              exact W.iret (v := xv) hx hb hr (fun t ht hW => ⟨⟨xv, (i, lf, ld), rfl, ⟨by omega, ivk_12_1⟩,  by rw [ht]; exact hP9, va_K.moved hW.alike hK9, hD9⟩, hS.F ht⟩) hS.2.2 dX10_atom_159
            · have hd_16 := hw_14.2 c_15
              refine lv_aload_n hx hb dX10_atom_99 rfl (lv_at hl 3 rfl) ?_
              refine va_get (D := (dC, dI)) (ci := 10) (v := .int lf) (C := RX10) (T := TX10) (N := 52) hx hb hts (fun _ h => List.mem_cons_of_mem _ (List.mem_append_right _ (List.mem_append_right _ (List.mem_append_left _ h)))) hown hK hP 0 rfl rfl 12 (by decide) (hts (.fieldLink RX10 150 "NotEndedModel" "fault" "I") (List.mem_cons_of_mem _ (List.mem_append_left _ (List.mem_of_getElem? (i := 10) rfl)))) (fun _ h9 => h9) rfl dX10_atom_100 ?_
              refine lv_iconst (v := (-1)) hx hb dX10_atom_103 (by decide) ?_
              refine lv_icmp_ne (tgt := 158) hx hb dX10_atom_104 (by decide) (fun c_17 => ?_) (fun c_17 => ?_)
              · refine lv_iload_n hx hb dX10_atom_158 rfl (lv_at hl 1 rfl) ?_
                have hP9 := hP
                have hD9 := hD
                have hK9 := hK
                rw [hQ]
                exact W.iret (v := xv) hx hb hr (fun t ht hW => ⟨⟨xv, (i, lf, ld), rfl, ⟨by omega, ivk_12_1⟩,  by rw [ht]; exact hP9, va_K.moved hW.alike hK9, hD9⟩, hS.F ht⟩) hS.2.2 dX10_atom_159
              · have e_18 := ivk_12_1 c_17
                subst e_18
                subst c_17
                refine lv_iload_n hx hb dX10_atom_107 rfl (lv_at hl 0 rfl) ?_
                refine lv_iconst (v := 4) hx hb dX10_atom_108 (by decide) ?_
                refine lv_icmp_ne (tgt := 119) hx hb dX10_atom_109 (by decide) (fun c_19 => ?_) (fun c_19 => ?_)
                · refine lv_bipush (v := 10) hx hb dX10_atom_119 (by decide) ?_
                  refine lv_iload_n hx hb dX10_atom_121 rfl (lv_at hl 1 rfl) ?_
                  refine lv_imul hx hb dX10_atom_122 ?_
                  refine lv_topi (fun x_20 ex_20 => ?_)
                  refine lv_aload_n hx hb dX10_atom_123 rfl (lv_at hl 3 rfl) ?_
                  refine va_get (D := (dC, dI)) (ci := 10) (v := .ref tx) (C := RX10) (T := TX10) (N := 52) hx hb hts (fun _ h => List.mem_cons_of_mem _ (List.mem_append_right _ (List.mem_append_right _ (List.mem_append_left _ h)))) hown hK hP 0 rfl rfl 5 (by decide) (hts (.fieldLink RX10 23 "NotEndedModel" "text" "[B") (List.mem_cons_of_mem _ (List.mem_append_left _ (List.mem_of_getElem? (i := 11) rfl)))) (fun _ h9 => h9) rfl dX10_atom_124 ?_
                  refine lv_aload_n hx hb dX10_atom_127 rfl (lv_at hl 3 rfl) ?_
                  refine va_get (D := (dC, dI)) (ci := 10) (v := .int (nI (be))) (C := RX10) (T := TX10) (N := 52) hx hb hts (fun _ h => List.mem_cons_of_mem _ (List.mem_append_right _ (List.mem_append_right _ (List.mem_append_left _ h)))) hown hK hP 0 rfl rfl 9 (by decide) (hts (.fieldLink RX10 147 "NotEndedModel" "begins" "I") (List.mem_cons_of_mem _ (List.mem_append_left _ (List.mem_of_getElem? (i := 12) rfl)))) (fun _ h9 => h9) rfl dX10_atom_128 ?_
                  refine lv_aload_n hx hb dX10_atom_131 rfl (lv_at hl 3 rfl) ?_
                  refine va_get (D := (dC, dI)) (ci := 10) (v := .int (nI (i))) (C := RX10) (T := TX10) (N := 52) hx hb hts (fun _ h => List.mem_cons_of_mem _ (List.mem_append_right _ (List.mem_append_right _ (List.mem_append_left _ h)))) hown hK hP 0 rfl rfl 11 (by decide) (hts (.fieldLink RX10 141 "NotEndedModel" "at" "I") (List.mem_cons_of_mem _ (List.mem_append_left _ (List.mem_of_getElem? (i := 13) rfl)))) (fun _ h9 => h9) rfl dX10_atom_132 ?_
                  refine lv_iadd hx hb dX10_atom_135 ?_
                  refine lv_topi (fun y_21 ey_21 => ?_)
                  obtain rfl : y_21 = nI (be + i) := ey_21.trans (nI_add (be) (i))
                  refine va_bald hx hb hK hP 1 0 rfl rfl (vp_in_nI (n := be + i) (N := nT) (by omega) (by omega)) dX10_atom_136 ?_
                  refine lv_topi (fun x_22 ex_22 => ?_)
                  refine lv_iadd hx hb dX10_atom_137 ?_
                  refine lv_topi (fun x_23 ex_23 => ?_)
                  refine lv_bipush (v := 48) hx hb dX10_atom_138 (by decide) ?_
                  refine lv_isub hx hb dX10_atom_140 ?_
                  refine lv_topi (fun x_24 ex_24 => ?_)
                  refine lv_istore_n hx hb dX10_atom_141 rfl hl (by decide) (kTo [(2, .int x_24), (3, .int xg), (1, .int r_1), (0, .ref jM)]) (fun ls hl => ?_)
                  refine lv_aload_n hx hb dX10_atom_142 rfl (lv_at hl 3 rfl) ?_
                  refine lv_dup hx hb dX10_atom_143 rfl ?_
                  refine va_get (D := (dC, dI)) (ci := 10) (v := .int (nI (i))) (C := RX10) (T := TX10) (N := 52) hx hb hts (fun _ h => List.mem_cons_of_mem _ (List.mem_append_right _ (List.mem_append_right _ (List.mem_append_left _ h)))) hown hK hP 0 rfl rfl 11 (by decide) (hts (.fieldLink RX10 141 "NotEndedModel" "at" "I") (List.mem_cons_of_mem _ (List.mem_append_left _ (List.mem_of_getElem? (i := 13) rfl)))) (fun _ h9 => h9) rfl dX10_atom_144 ?_
                  refine lv_iconst (v := 1) hx hb dX10_atom_147 (by decide) ?_
                  refine lv_iadd hx hb dX10_atom_148 ?_
                  refine lv_topi (fun y_25 ey_25 => ?_)
                  obtain rfl : y_25 = nI (i + 1) := ey_25.trans (nI_add (i) (1))
                  refine va_put (D := (dC, dI)) (ci := 10) (v := .int (nI (i + 1))) (ty := tyX10 11) (C := RX10) (T := TX10) (N := 52) hx hb hts (fun _ h => List.mem_cons_of_mem _ (List.mem_append_right _ (List.mem_append_right _ (List.mem_append_left _ h)))) tyX10 tyX10_ok nmX10 hown hK hP hD hS 0 rfl rfl 11 (by decide) (hts (.fieldLink RX10 141 "NotEndedModel" "at" "I") (List.mem_cons_of_mem _ (List.mem_append_left _ (List.mem_of_getElem? (i := 13) rfl)))) (fun _ h9 => h9) rfl (tyX10_ok 11 (by decide)) rfl rfl (Nat.le_of_ble_eq_true rfl) dX10_atom_149 (fun H locs hP hD hS => ?_)
                  obtain ⟨hP, hD⟩ : kPD dC dI A [(jM, kMo vs (.ref lt) (.ref tx) (.int (nI (be))) (.int (nI (en))) (.int (nI (i + 1))) (.int (-1)) (.int 2) (v14 : Value) (v15 : Value) (.ref q6) (.ref q7) (v18 : Value)), (tx, .inl (cT, nT, .inl gT)), (lt, .inl (cE, 128, .inl gE))] H := ⟨hP, hD⟩
                  obtain ⟨x_26, ex_26⟩ : ∃ y : Int32, y = xg + 1 := ⟨_, rfl⟩
                  refine lv_iinc (v := x_26) hx hb dX10_atom_152 hl (k := 1) rfl (by rw [ex_26]; rfl) (by decide) (kTo [(3, .int x_26), (2, .int x_24), (1, .int r_1), (0, .ref jM)]) (fun ls hl => ?_)
                  refine lv_goto (tgt := 92) hx hb dX10_atom_155 (by decide) ?_
                  exact ih_k_12 (i + 1) (-1) 2 x_24 x_26 (by omega) (fun _ => rfl) _ _ hP hD hS ls (lv_sub hl [0, 1, 2, 3] rfl) (by omega)
                · refine lv_aload_n hx hb dX10_atom_112 rfl (lv_at hl 3 rfl) ?_
                  obtain ⟨hPc, hDc, hFc⟩ := kCut (wc := [(jM, kMo vs (.ref lt) (.ref tx) (.int (nI (be))) (.int (nI (en))) (.int (nI (i))) (.int (-1)) (.int 2) (v14 : Value) (v15 : Value) (.ref q6) (.ref q7) (v18 : Value))]) hP hD hS hA [0] rfl (by decide) rfl
                  have hKc := hK.sb (tys2 := []) [] rfl
                  refine va_calli (va_runV (As := []) (rest := []) ⟨hx, hb, hml, hown, hts⟩ (s_fails10 l dC dI jM vs (.int 2 : Value) ((v14 : Value) : Value) ((v15 : Value) : Value) ((v18 : Value) : Value) lt q6 q7 tx be en i (by omega) (by omega) (-1) H.size) (cwV 0 hts (kG (List.forall_mem_cons.mpr ⟨(List.mem_cons_of_mem _ (List.mem_append_left _ (List.mem_of_getElem? (i := 16) rfl))), (List.forall_mem_cons.mpr ⟨(List.mem_cons_of_mem _ (List.mem_append_left _ (List.mem_of_getElem? (i := 15) rfl))), (List.forall_mem_cons.mpr ⟨(List.mem_cons_of_mem _ (List.mem_append_left _ (List.mem_of_getElem? (i := 14) rfl))), (List.forall_mem_cons.mpr ⟨(List.mem_cons_of_mem _ (List.mem_append_left _ (List.mem_of_getElem? (i := 0) rfl))), (fun _ h => absurd h List.not_mem_nil)⟩)⟩)⟩)⟩) (kGV _ _ _ _) (fun _ h => List.mem_cons_of_mem _ (List.mem_append_right _ (List.mem_append_right _ (List.mem_append_right _ (List.mem_append_right _ (List.mem_append_right _ (List.mem_append_left _ h))))))) gw_s_fails10) rfl rfl rfl ⟨rfl, hd_X10_fails⟩ ⟨(Nat.le_of_ble_eq_true rfl), (Nat.le_of_ble_eq_true rfl)⟩) (kW_V kT_blind kT_give (va_recv hKc hPc (ci := 10) (q0 := 0) rfl rfl) hPc hKc hDc) rfl rfl hl.1 rfl (lv_room (Nat.le_of_ble_eq_true rfl)) dX10_atom_113 ⟨(Nat.le_of_ble_eq_true rfl), (Nat.le_of_ble_eq_true rfl)⟩) hS (fun q _ h => hFc q h) hFc (fun r_27 u t H1 locs ht hvm hw hB hz1 hk1 hS => ?_)
                  obtain ⟨xf_28, rfl⟩ : ∃ z, z = u := ⟨_, rfl⟩
                  obtain ⟨hP1, hK1, hD1⟩ := hB
                  rw [ht] at hP1
                  try dsimp only at hw
                  obtain ⟨hP, hD⟩ : kPD dC dI A [(jM, kMo vs (.ref lt) (.ref tx) (.int (nI (be))) (.int (nI (en))) (.int (nI (i))) (.int xf_28) (.int 2) ((v14 : Value) : Value) ((v15 : Value) : Value) (.ref q6) (.ref q7) ((v18 : Value) : Value)), (tx, .inl (cT, nT, .inl gT)), (lt, .inl (cE, 128, .inl gE))] H1 := kJoinI hP hD [0] rfl hk1 hFc hP1 hD1 rfl [some 0, none, none] rfl rfl
                  generalize H1 = H at hP hS ⊢
                  obtain ⟨rfl, hw_29⟩ := hw
                  refine lv_pop hx hb dX10_atom_116 rfl ?_
                  refine lv_iconst (v := 0) hx hb dX10_atom_117 (by decide) ?_
                  have hP9 := hP
                  have hD9 := hD
                  have hK9 := hK
                  rw [hQ]
                  exact W.iret (v := 0) hx hb hr (fun t ht hW => ⟨⟨0, (i, xf_28, 2), rfl, ⟨by omega, (fun z9 => absurd z9 hw_29)⟩,  by rw [ht]; exact hP9, va_K.moved hW.alike hK9, hD9⟩, hS.F ht⟩) hS.2.2 dX10_atom_118
        exact lp_k_12 (en - a1_2 + 1) a1_2 (-1) 2 0 0 (by omega) (fun _ => rfl) _ _ hP hD hS ls (lv_sub hl [0, 1, 2, 3] rfl) (by omega)
      · refine lv_aload_n hx hb dX10_atom_83 rfl (lv_at hl 1 rfl) ?_
        obtain ⟨hPc, hDc, hFc⟩ := kCut (wc := [(jM, kMo vs (.ref lt) (.ref tx) (.int (nI (be))) (.int (nI (en))) (.int (nI (a1_2))) (.int (-1)) (.int 2) (v14 : Value) (v15 : Value) (.ref q6) (.ref q7) (v18 : Value))]) hP hD hS hA [0] rfl (by decide) rfl
        have hKc := hK.sb (tys2 := []) [] rfl
        refine va_calli (va_runV (As := []) (rest := []) ⟨hx, hb, hml, hown, hts⟩ (s_fails10 l dC dI jM vs (.int 2 : Value) ((v14 : Value) : Value) ((v15 : Value) : Value) ((v18 : Value) : Value) lt q6 q7 tx be en a1_2 (by omega) (by omega) (-1) H.size) (cwV 0 hts (kG (List.forall_mem_cons.mpr ⟨(List.mem_cons_of_mem _ (List.mem_append_left _ (List.mem_of_getElem? (i := 16) rfl))), (List.forall_mem_cons.mpr ⟨(List.mem_cons_of_mem _ (List.mem_append_left _ (List.mem_of_getElem? (i := 15) rfl))), (List.forall_mem_cons.mpr ⟨(List.mem_cons_of_mem _ (List.mem_append_left _ (List.mem_of_getElem? (i := 14) rfl))), (List.forall_mem_cons.mpr ⟨(List.mem_cons_of_mem _ (List.mem_append_left _ (List.mem_of_getElem? (i := 0) rfl))), (fun _ h => absurd h List.not_mem_nil)⟩)⟩)⟩)⟩) (kGV _ _ _ _) (fun _ h => List.mem_cons_of_mem _ (List.mem_append_right _ (List.mem_append_right _ (List.mem_append_right _ (List.mem_append_right _ (List.mem_append_right _ (List.mem_append_left _ h))))))) gw_s_fails10) rfl rfl rfl ⟨rfl, hd_X10_fails⟩ ⟨(Nat.le_of_ble_eq_true rfl), (Nat.le_of_ble_eq_true rfl)⟩) (kW_V kT_blind kT_give (va_recv hKc hPc (ci := 10) (q0 := 0) rfl rfl) hPc hKc hDc) rfl rfl hl.1 rfl (lv_room (Nat.le_of_ble_eq_true rfl)) dX10_atom_84 ⟨(Nat.le_of_ble_eq_true rfl), (Nat.le_of_ble_eq_true rfl)⟩) hS (fun q _ h => hFc q h) hFc (fun r_30 u t H1 locs ht hvm hw hB hz1 hk1 hS => ?_)
        obtain ⟨xf_31, rfl⟩ : ∃ z, z = u := ⟨_, rfl⟩
        obtain ⟨hP1, hK1, hD1⟩ := hB
        rw [ht] at hP1
        try dsimp only at hw
        obtain ⟨hP, hD⟩ : kPD dC dI A [(jM, kMo vs (.ref lt) (.ref tx) (.int (nI (be))) (.int (nI (en))) (.int (nI (a1_2))) (.int xf_31) (.int 2) ((v14 : Value) : Value) ((v15 : Value) : Value) (.ref q6) (.ref q7) ((v18 : Value) : Value)), (tx, .inl (cT, nT, .inl gT)), (lt, .inl (cE, 128, .inl gE))] H1 := kJoinI hP hD [0] rfl hk1 hFc hP1 hD1 rfl [some 0, none, none] rfl rfl
        generalize H1 = H at hP hS ⊢
        obtain ⟨rfl, hw_32⟩ := hw
        refine lv_pop hx hb dX10_atom_87 rfl ?_
        refine lv_iconst (v := 0) hx hb dX10_atom_88 (by decide) ?_
        refine lv_istore_n hx hb dX10_atom_89 rfl hl (by decide) (kTo [(2, .int 0), (1, .int r_1), (0, .ref jM)]) (fun ls hl => ?_)
        refine lv_iconst (v := 0) hx hb dX10_atom_90 (by decide) ?_
        refine lv_istore_n hx hb dX10_atom_91 rfl hl (by decide) (kTo [(3, .int 0), (2, .int 0), (1, .int r_1), (0, .ref jM)]) (fun ls hl => ?_)
        have lp_k_33 : ∀ (n9 : Nat) (i : Nat) (lf : Int32) (ld : Int32) (xv : Int32) (xg : Int32) (ivk_33_0 : (a ≤ i ∧ i ≤ en)) (ivk_33_1 : (lf = -1 → ld = 2)) (H : Heap) (locs : List Loc) (_ : va_P (dC, dI) vwCl [(jM, kMo vs (.ref lt) (.ref tx) (.int (nI (be))) (.int (nI (en))) (.int (nI (i))) (.int lf) (.int ld) ((v14 : Value) : Value) ((v15 : Value) : Value) (.ref q6) (.ref q7) ((v18 : Value) : Value)), (tx, .inl (cT, nT, .inl gT)), (lt, .inl (cE, 128, .inl gE))] H) (_ : va_D A [(jM, kMo vs (.ref lt) (.ref tx) (.int (nI (be))) (.int (nI (en))) (.int (nI (i))) (.int lf) (.int ld) ((v14 : Value) : Value) ((v15 : Value) : Value) (.ref q6) (.ref q7) ((v18 : Value) : Value)), (tx, .inl (cT, nT, .inl gT)), (lt, .inl (cE, 128, .inl gE))]) (_ : va_S A s.heap H locs) (ls : Array Slot) (_ : lv_has ls 4 [(3, .int xg), (2, .int xv), (1, .int r_1), (0, .ref jM)]) (_ : en - i < n9), W p l e (headSpec w_s_atom10_2 ({ frames := 35, cells := 0, slots := 0, locals := 2100 })).room s m (#[.ref jM] : Array Value) below meth c H locs 0 0 Q (F0 m 92 ls []) := by
          intro n9
          induction n9 with
          | zero => intro i lf ld xv xg ivk_33_0 ivk_33_1 H locs hP hD hS ls hl hm9; exact absurd hm9 (Nat.not_lt_zero _)
          | succ n9 ih_k_33 =>
            intro i lf ld xv xg ivk_33_0 ivk_33_1 H locs hP hD hS ls hl hm9
            refine lv_aload_n hx hb dX10_atom_92 rfl (lv_at hl 3 rfl) ?_
            have hPc := hP.sb (ws2 := [(jM, kMo vs (.ref lt) (.ref tx) (.int (nI (be))) (.int (nI (en))) (.int (nI (i))) (.int lf) (.int ld) ((v14 : Value) : Value) ((v15 : Value) : Value) (.ref q6) (.ref q7) ((v18 : Value) : Value)), (tx, .inl (cT, nT, .inl gT))]) [0, 1] rfl
            have hKc := hK.sb (tys2 := [(cT, .byte)]) [0] rfl
            refine vp_callSi (va_runV (As := []) (rest := []) ⟨hx, hb, hml, hown, hts⟩ (s_isDigit10 l dC dI jM vs (.int lf : Value) (.int ld : Value) (((v14 : Value) : Value) : Value) (((v15 : Value) : Value) : Value) (((v18 : Value) : Value) : Value) lt q6 q7 tx cT nT gT be en i (by omega) (by omega) (by omega)) (cwV 0 hts (kG (List.forall_mem_cons.mpr ⟨(List.mem_cons_of_mem _ (List.mem_append_left _ (List.mem_of_getElem? (i := 9) rfl))), (List.forall_mem_cons.mpr ⟨(List.mem_cons_of_mem _ (List.mem_append_left _ (List.mem_of_getElem? (i := 8) rfl))), (List.forall_mem_cons.mpr ⟨(List.mem_cons_of_mem _ (List.mem_append_left _ (List.mem_of_getElem? (i := 7) rfl))), (List.forall_mem_cons.mpr ⟨(List.mem_cons_of_mem _ (List.mem_append_left _ (List.mem_of_getElem? (i := 0) rfl))), (fun _ h => absurd h List.not_mem_nil)⟩)⟩)⟩)⟩) (kGV _ _ _ _) (fun _ h => List.mem_cons_of_mem _ (List.mem_append_right _ (List.mem_append_right _ (List.mem_append_right _ (List.mem_append_right _ (List.mem_append_left _ h)))))) gw_s_isDigit10) rfl rfl rfl ⟨rfl, hd_X10_isDigit⟩ ⟨(Nat.le_of_ble_eq_true rfl), (Nat.le_of_ble_eq_true rfl)⟩) (kR_V kT_blind kT_give (va_recv hKc hPc (ci := 10) (q0 := 0) rfl rfl) hPc hKc) rfl rfl hl.1 rfl (lv_room (Nat.le_of_ble_eq_true rfl)) dX10_atom_93 ⟨(Nat.le_of_ble_eq_true rfl), (Nat.le_of_ble_eq_true rfl)⟩).run (fun r_34 hw => ?_)
            have hw_35 := hw
            refine lv_if_eq (tgt := 158) hx hb dX10_atom_96 (by decide) (fun c_36 => ?_) (fun c_36 => ?_)
            · refine lv_iload_n hx hb dX10_atom_158 rfl (lv_at hl 1 rfl) ?_
              have hP9 := hP
              have hD9 := hD
              have hK9 := hK
              rw [hQ]
              exact W.iret (v := xv) hx hb hr (fun t ht hW => ⟨⟨xv, (i, lf, ld), rfl, ⟨by omega, ivk_33_1⟩,  by rw [ht]; exact hP9, va_K.moved hW.alike hK9, hD9⟩, hS.F ht⟩) hS.2.2 dX10_atom_159
            · have hd_37 := hw_35.2 c_36
              refine lv_aload_n hx hb dX10_atom_99 rfl (lv_at hl 3 rfl) ?_
              refine va_get (D := (dC, dI)) (ci := 10) (v := .int lf) (C := RX10) (T := TX10) (N := 52) hx hb hts (fun _ h => List.mem_cons_of_mem _ (List.mem_append_right _ (List.mem_append_right _ (List.mem_append_left _ h)))) hown hK hP 0 rfl rfl 12 (by decide) (hts (.fieldLink RX10 150 "NotEndedModel" "fault" "I") (List.mem_cons_of_mem _ (List.mem_append_left _ (List.mem_of_getElem? (i := 10) rfl)))) (fun _ h9 => h9) rfl dX10_atom_100 ?_
              refine lv_iconst (v := (-1)) hx hb dX10_atom_103 (by decide) ?_
              refine lv_icmp_ne (tgt := 158) hx hb dX10_atom_104 (by decide) (fun c_38 => ?_) (fun c_38 => ?_)
              · refine lv_iload_n hx hb dX10_atom_158 rfl (lv_at hl 1 rfl) ?_
                have hP9 := hP
                have hD9 := hD
                have hK9 := hK
                rw [hQ]
                exact W.iret (v := xv) hx hb hr (fun t ht hW => ⟨⟨xv, (i, lf, ld), rfl, ⟨by omega, ivk_33_1⟩,  by rw [ht]; exact hP9, va_K.moved hW.alike hK9, hD9⟩, hS.F ht⟩) hS.2.2 dX10_atom_159
              · have e_39 := ivk_33_1 c_38
                subst e_39
                subst c_38
                refine lv_iload_n hx hb dX10_atom_107 rfl (lv_at hl 0 rfl) ?_
                refine lv_iconst (v := 4) hx hb dX10_atom_108 (by decide) ?_
                refine lv_icmp_ne (tgt := 119) hx hb dX10_atom_109 (by decide) (fun c_40 => ?_) (fun c_40 => ?_)
                · refine lv_bipush (v := 10) hx hb dX10_atom_119 (by decide) ?_
                  refine lv_iload_n hx hb dX10_atom_121 rfl (lv_at hl 1 rfl) ?_
                  refine lv_imul hx hb dX10_atom_122 ?_
                  refine lv_topi (fun x_41 ex_41 => ?_)
                  refine lv_aload_n hx hb dX10_atom_123 rfl (lv_at hl 3 rfl) ?_
                  refine va_get (D := (dC, dI)) (ci := 10) (v := .ref tx) (C := RX10) (T := TX10) (N := 52) hx hb hts (fun _ h => List.mem_cons_of_mem _ (List.mem_append_right _ (List.mem_append_right _ (List.mem_append_left _ h)))) hown hK hP 0 rfl rfl 5 (by decide) (hts (.fieldLink RX10 23 "NotEndedModel" "text" "[B") (List.mem_cons_of_mem _ (List.mem_append_left _ (List.mem_of_getElem? (i := 11) rfl)))) (fun _ h9 => h9) rfl dX10_atom_124 ?_
                  refine lv_aload_n hx hb dX10_atom_127 rfl (lv_at hl 3 rfl) ?_
                  refine va_get (D := (dC, dI)) (ci := 10) (v := .int (nI (be))) (C := RX10) (T := TX10) (N := 52) hx hb hts (fun _ h => List.mem_cons_of_mem _ (List.mem_append_right _ (List.mem_append_right _ (List.mem_append_left _ h)))) hown hK hP 0 rfl rfl 9 (by decide) (hts (.fieldLink RX10 147 "NotEndedModel" "begins" "I") (List.mem_cons_of_mem _ (List.mem_append_left _ (List.mem_of_getElem? (i := 12) rfl)))) (fun _ h9 => h9) rfl dX10_atom_128 ?_
                  refine lv_aload_n hx hb dX10_atom_131 rfl (lv_at hl 3 rfl) ?_
                  refine va_get (D := (dC, dI)) (ci := 10) (v := .int (nI (i))) (C := RX10) (T := TX10) (N := 52) hx hb hts (fun _ h => List.mem_cons_of_mem _ (List.mem_append_right _ (List.mem_append_right _ (List.mem_append_left _ h)))) hown hK hP 0 rfl rfl 11 (by decide) (hts (.fieldLink RX10 141 "NotEndedModel" "at" "I") (List.mem_cons_of_mem _ (List.mem_append_left _ (List.mem_of_getElem? (i := 13) rfl)))) (fun _ h9 => h9) rfl dX10_atom_132 ?_
                  refine lv_iadd hx hb dX10_atom_135 ?_
                  refine lv_topi (fun y_42 ey_42 => ?_)
                  obtain rfl : y_42 = nI (be + i) := ey_42.trans (nI_add (be) (i))
                  refine va_bald hx hb hK hP 1 0 rfl rfl (vp_in_nI (n := be + i) (N := nT) (by omega) (by omega)) dX10_atom_136 ?_
                  refine lv_topi (fun x_43 ex_43 => ?_)
                  refine lv_iadd hx hb dX10_atom_137 ?_
                  refine lv_topi (fun x_44 ex_44 => ?_)
                  refine lv_bipush (v := 48) hx hb dX10_atom_138 (by decide) ?_
                  refine lv_isub hx hb dX10_atom_140 ?_
                  refine lv_topi (fun x_45 ex_45 => ?_)
                  refine lv_istore_n hx hb dX10_atom_141 rfl hl (by decide) (kTo [(2, .int x_45), (3, .int xg), (1, .int r_1), (0, .ref jM)]) (fun ls hl => ?_)
                  refine lv_aload_n hx hb dX10_atom_142 rfl (lv_at hl 3 rfl) ?_
                  refine lv_dup hx hb dX10_atom_143 rfl ?_
                  refine va_get (D := (dC, dI)) (ci := 10) (v := .int (nI (i))) (C := RX10) (T := TX10) (N := 52) hx hb hts (fun _ h => List.mem_cons_of_mem _ (List.mem_append_right _ (List.mem_append_right _ (List.mem_append_left _ h)))) hown hK hP 0 rfl rfl 11 (by decide) (hts (.fieldLink RX10 141 "NotEndedModel" "at" "I") (List.mem_cons_of_mem _ (List.mem_append_left _ (List.mem_of_getElem? (i := 13) rfl)))) (fun _ h9 => h9) rfl dX10_atom_144 ?_
                  refine lv_iconst (v := 1) hx hb dX10_atom_147 (by decide) ?_
                  refine lv_iadd hx hb dX10_atom_148 ?_
                  refine lv_topi (fun y_46 ey_46 => ?_)
                  obtain rfl : y_46 = nI (i + 1) := ey_46.trans (nI_add (i) (1))
                  refine va_put (D := (dC, dI)) (ci := 10) (v := .int (nI (i + 1))) (ty := tyX10 11) (C := RX10) (T := TX10) (N := 52) hx hb hts (fun _ h => List.mem_cons_of_mem _ (List.mem_append_right _ (List.mem_append_right _ (List.mem_append_left _ h)))) tyX10 tyX10_ok nmX10 hown hK hP hD hS 0 rfl rfl 11 (by decide) (hts (.fieldLink RX10 141 "NotEndedModel" "at" "I") (List.mem_cons_of_mem _ (List.mem_append_left _ (List.mem_of_getElem? (i := 13) rfl)))) (fun _ h9 => h9) rfl (tyX10_ok 11 (by decide)) rfl rfl (Nat.le_of_ble_eq_true rfl) dX10_atom_149 (fun H locs hP hD hS => ?_)
                  obtain ⟨hP, hD⟩ : kPD dC dI A [(jM, kMo vs (.ref lt) (.ref tx) (.int (nI (be))) (.int (nI (en))) (.int (nI (i + 1))) (.int (-1)) (.int 2) ((v14 : Value) : Value) ((v15 : Value) : Value) (.ref q6) (.ref q7) ((v18 : Value) : Value)), (tx, .inl (cT, nT, .inl gT)), (lt, .inl (cE, 128, .inl gE))] H := ⟨hP, hD⟩
                  obtain ⟨x_47, ex_47⟩ : ∃ y : Int32, y = xg + 1 := ⟨_, rfl⟩
                  refine lv_iinc (v := x_47) hx hb dX10_atom_152 hl (k := 1) rfl (by rw [ex_47]; rfl) (by decide) (kTo [(3, .int x_47), (2, .int x_45), (1, .int r_1), (0, .ref jM)]) (fun ls hl => ?_)
                  refine lv_goto (tgt := 92) hx hb dX10_atom_155 (by decide) ?_
                  exact ih_k_33 (i + 1) (-1) 2 x_45 x_47 (by omega) (fun _ => rfl) _ _ hP hD hS ls (lv_sub hl [0, 1, 2, 3] rfl) (by omega)
                · refine lv_aload_n hx hb dX10_atom_112 rfl (lv_at hl 3 rfl) ?_
                  obtain ⟨hPc, hDc, hFc⟩ := kCut (wc := [(jM, kMo vs (.ref lt) (.ref tx) (.int (nI (be))) (.int (nI (en))) (.int (nI (i))) (.int (-1)) (.int 2) ((v14 : Value) : Value) ((v15 : Value) : Value) (.ref q6) (.ref q7) ((v18 : Value) : Value))]) hP hD hS hA [0] rfl (by decide) rfl
                  have hKc := hK.sb (tys2 := []) [] rfl
                  refine va_calli (va_runV (As := []) (rest := []) ⟨hx, hb, hml, hown, hts⟩ (s_fails10 l dC dI jM vs (.int 2 : Value) (((v14 : Value) : Value) : Value) (((v15 : Value) : Value) : Value) (((v18 : Value) : Value) : Value) lt q6 q7 tx be en i (by omega) (by omega) (-1) H.size) (cwV 0 hts (kG (List.forall_mem_cons.mpr ⟨(List.mem_cons_of_mem _ (List.mem_append_left _ (List.mem_of_getElem? (i := 16) rfl))), (List.forall_mem_cons.mpr ⟨(List.mem_cons_of_mem _ (List.mem_append_left _ (List.mem_of_getElem? (i := 15) rfl))), (List.forall_mem_cons.mpr ⟨(List.mem_cons_of_mem _ (List.mem_append_left _ (List.mem_of_getElem? (i := 14) rfl))), (List.forall_mem_cons.mpr ⟨(List.mem_cons_of_mem _ (List.mem_append_left _ (List.mem_of_getElem? (i := 0) rfl))), (fun _ h => absurd h List.not_mem_nil)⟩)⟩)⟩)⟩) (kGV _ _ _ _) (fun _ h => List.mem_cons_of_mem _ (List.mem_append_right _ (List.mem_append_right _ (List.mem_append_right _ (List.mem_append_right _ (List.mem_append_right _ (List.mem_append_left _ h))))))) gw_s_fails10) rfl rfl rfl ⟨rfl, hd_X10_fails⟩ ⟨(Nat.le_of_ble_eq_true rfl), (Nat.le_of_ble_eq_true rfl)⟩) (kW_V kT_blind kT_give (va_recv hKc hPc (ci := 10) (q0 := 0) rfl rfl) hPc hKc hDc) rfl rfl hl.1 rfl (lv_room (Nat.le_of_ble_eq_true rfl)) dX10_atom_113 ⟨(Nat.le_of_ble_eq_true rfl), (Nat.le_of_ble_eq_true rfl)⟩) hS (fun q _ h => hFc q h) hFc (fun r_48 u t H1 locs ht hvm hw hB hz1 hk1 hS => ?_)
                  obtain ⟨xf_49, rfl⟩ : ∃ z, z = u := ⟨_, rfl⟩
                  obtain ⟨hP1, hK1, hD1⟩ := hB
                  rw [ht] at hP1
                  try dsimp only at hw
                  obtain ⟨hP, hD⟩ : kPD dC dI A [(jM, kMo vs (.ref lt) (.ref tx) (.int (nI (be))) (.int (nI (en))) (.int (nI (i))) (.int xf_49) (.int 2) (((v14 : Value) : Value) : Value) (((v15 : Value) : Value) : Value) (.ref q6) (.ref q7) (((v18 : Value) : Value) : Value)), (tx, .inl (cT, nT, .inl gT)), (lt, .inl (cE, 128, .inl gE))] H1 := kJoinI hP hD [0] rfl hk1 hFc hP1 hD1 rfl [some 0, none, none] rfl rfl
                  generalize H1 = H at hP hS ⊢
                  obtain ⟨rfl, hw_50⟩ := hw
                  refine lv_pop hx hb dX10_atom_116 rfl ?_
                  refine lv_iconst (v := 0) hx hb dX10_atom_117 (by decide) ?_
                  have hP9 := hP
                  have hD9 := hD
                  have hK9 := hK
                  rw [hQ]
                  exact W.iret (v := 0) hx hb hr (fun t ht hW => ⟨⟨0, (i, xf_49, 2), rfl, ⟨by omega, (fun z9 => absurd z9 hw_50)⟩,  by rw [ht]; exact hP9, va_K.moved hW.alike hK9, hD9⟩, hS.F ht⟩) hS.2.2 dX10_atom_118
        exact lp_k_33 (en - a1_2 + 1) a1_2 xf_31 2 0 0 (by omega) (fun z9 => absurd z9 hw_32) _ _ hP hD hS ls (lv_sub hl [0, 1, 2, 3] rfl) (by omega)
    · have hns_51 := hw_3.1.resolve_left (fun z9 => absurd (c_7.symm.trans z9) (by decide))
      have hns_51_1 := hns_51.1
      refine lv_aload_n hx hb dX10_atom_39 rfl (lv_at hl 1 rfl) ?_
      obtain ⟨hPc, hDc, hFc⟩ := kCut (wc := [(jM, kMo vs (.ref lt) (.ref tx) (.int (nI (be))) (.int (nI (en))) (.int (nI (a1_2))) (.int (-1)) (.int 2) (v14 : Value) (v15 : Value) (.ref q6) (.ref q7) (v18 : Value))]) hP hD hS hA [0] rfl (by decide) rfl
      have hKc := hK.sb (tys2 := []) [] rfl
      refine va_calli (va_runV (As := []) (rest := []) ⟨hx, hb, hml, hown, hts⟩ (s_goesIn10_2 l dC dI jM vs (.int (-1) : Value) ((v14 : Value) : Value) ((v15 : Value) : Value) ((v18 : Value) : Value) lt q6 q7 tx be en a1_2 (by omega) (by omega) (by omega) H.size) (cwV 0 hts (kG (List.forall_mem_cons.mpr ⟨(List.mem_cons_of_mem _ (List.mem_append_left _ (List.mem_of_getElem? (i := 19) rfl))), (List.forall_mem_cons.mpr ⟨(List.mem_cons_of_mem _ (List.mem_append_left _ (List.mem_of_getElem? (i := 18) rfl))), (List.forall_mem_cons.mpr ⟨(List.mem_cons_of_mem _ (List.mem_append_left _ (List.mem_of_getElem? (i := 17) rfl))), (List.forall_mem_cons.mpr ⟨(List.mem_cons_of_mem _ (List.mem_append_left _ (List.mem_of_getElem? (i := 0) rfl))), (fun _ h => absurd h List.not_mem_nil)⟩)⟩)⟩)⟩) (kGV _ _ _ _) (fun _ h => List.mem_cons_of_mem _ (List.mem_append_right _ (List.mem_append_right _ (List.mem_append_right _ (List.mem_append_right _ (List.mem_append_right _ (List.mem_append_right _ (List.mem_append_right _ (List.mem_append_right _ (List.mem_append_right _ (List.mem_append_right _ (List.mem_append_right _ (List.mem_append_right _ (List.mem_append_right _ (List.mem_append_left _ h))))))))))))))) gw_s_goesIn10_2) rfl rfl rfl ⟨rfl, hd_X10_goesIn⟩ ⟨(Nat.le_of_ble_eq_true rfl), (Nat.le_of_ble_eq_true rfl)⟩) (kW_V kT_blind kT_give (va_recv hKc hPc (ci := 10) (q0 := 0) rfl rfl) hPc hKc hDc) rfl rfl hl.1 rfl (lv_room (Nat.le_of_ble_eq_true rfl)) dX10_atom_40 ⟨(Nat.le_of_ble_eq_true rfl), (Nat.le_of_ble_eq_true rfl)⟩) hS (fun q _ h => hFc q h) hFc (fun r_52 u t H1 locs ht hvm hw hB hz1 hk1 hS => ?_)
      obtain ⟨hP1, hK1, hD1⟩ := hB
      rw [ht] at hP1
      try dsimp only at hw
      obtain ⟨hP, hD⟩ : kPD dC dI A [(jM, kMo vs (.ref lt) (.ref tx) (.int (nI (be))) (.int (nI (en))) (.int (nI (a1_2 + 1))) (.int (-1)) (.int 3) ((v14 : Value) : Value) ((v15 : Value) : Value) (.ref q6) (.ref q7) ((v18 : Value) : Value)), (tx, .inl (cT, nT, .inl gT)), (lt, .inl (cE, 128, .inl gE))] H1 := kJoinI hP hD [0] rfl hk1 hFc hP1 hD1 rfl [some 0, none, none] rfl rfl
      generalize H1 = H at hP hS ⊢
      obtain rfl : r_52 = 1 := hw
      refine lv_if_ne (tgt := 48) hx hb dX10_atom_43 (by decide) (fun c_53 => ?_) (fun c_53 => absurd c_53 (by decide))
      refine lv_aload_n hx hb dX10_atom_48 rfl (lv_at hl 1 rfl) ?_
      obtain ⟨hPc, hDc, hFc⟩ := kCut (wc := [(jM, kMo vs (.ref lt) (.ref tx) (.int (nI (be))) (.int (nI (en))) (.int (nI (a1_2 + 1))) (.int (-1)) (.int 3) ((v14 : Value) : Value) ((v15 : Value) : Value) (.ref q6) (.ref q7) ((v18 : Value) : Value)), (tx, .inl (cT, nT, .inl gT)), (lt, .inl (cE, 128, .inl gE))]) hP hD hS hA [0, 1, 2] rfl (by decide) rfl
      have hKc := hK.sb (tys2 := [(cT, .byte), (cE, .int)]) [0, 1] rfl
      refine va_calli (va_runV (As := []) (rest := []) ⟨hx, hb, hml, hown, hts⟩ (s_sum10_3 l dC dI jM vs (((v14 : Value) : Value) : Value) (((v15 : Value) : Value) : Value) (((v18 : Value) : Value) : Value) lt q6 q7 tx cT nT gT be en (a1_2 + 1) (by omega) (by omega) (by omega) cE gE b6 n6 g6 hn6 hg6 b7 n7 g7 hn7 hg7 H.size) (cwV 0 hts (kG (List.forall_mem_cons.mpr ⟨(List.mem_cons_of_mem _ (List.mem_append_left _ (List.mem_of_getElem? (i := 34) rfl))), (List.forall_mem_cons.mpr ⟨(List.mem_cons_of_mem _ (List.mem_append_left _ (List.mem_of_getElem? (i := 33) rfl))), (List.forall_mem_cons.mpr ⟨(List.mem_cons_of_mem _ (List.mem_append_left _ (List.mem_of_getElem? (i := 32) rfl))), (List.forall_mem_cons.mpr ⟨(List.mem_cons_of_mem _ (List.mem_append_left _ (List.mem_of_getElem? (i := 0) rfl))), (fun _ h => absurd h List.not_mem_nil)⟩)⟩)⟩)⟩) (kGV _ _ _ _) (kFam (List.mem_cons_of_mem _ (List.mem_append_left _ (List.mem_of_getElem? (i := 31) rfl)))) gw_s_sum10_3) rfl rfl rfl ⟨rfl, hd_X10_sum⟩ ⟨(Nat.le_of_ble_eq_true rfl), (Nat.le_of_ble_eq_true rfl)⟩) (kW_V kS2_blind (kS2_give hX hS hFc) (va_recv hKc hPc (ci := 10) (q0 := 0) rfl rfl) hPc hKc hDc) rfl rfl hl.1 rfl (lv_room (Nat.le_of_ble_eq_true rfl)) dX10_atom_49 ⟨(Nat.le_of_ble_eq_true rfl), (Nat.le_of_ble_eq_true rfl)⟩) hS (fun q _ h => hFc q h) hFc (fun r_54 u t H1 locs ht hvm hw hB hz1 hk1 hS => ?_)
      obtain ⟨a1_55, xf_56, xd_57⟩ := u
      obtain ⟨hP1, hK1, hD1⟩ := hB
      rw [ht] at hP1
      try dsimp only at hw
      obtain ⟨hP, hD⟩ : kPD dC dI A [(jM, kMo vs (.ref lt) (.ref tx) (.int (nI (be))) (.int (nI (en))) (.int (nI (a1_55))) (.int xf_56) (.int xd_57) (((v14 : Value) : Value) : Value) (((v15 : Value) : Value) : Value) (.ref q6) (.ref q7) (((v18 : Value) : Value) : Value)), (tx, .inl (cT, nT, .inl gT)), (lt, .inl (cE, 128, .inl gE))] H1 := kJoinI hP hD [0, 1, 2] rfl hk1 hFc hP1 hD1 rfl [some 0, some 1, some 2] rfl rfl
      generalize H1 = H at hP hS ⊢
      have hw_58 := hw
      have hw_58_a := hw_58.1
      refine lv_istore_n hx hb dX10_atom_52 rfl hl (by decide) (kTo [(2, .int r_54), (1, .int r_1), (0, .ref jM)]) (fun ls hl => ?_)
      refine lv_aload_n hx hb dX10_atom_53 rfl (lv_at hl 2 rfl) ?_
      refine lv_bipush (v := 93) hx hb dX10_atom_54 (by decide) ?_
      obtain ⟨hPc, hDc, hFc⟩ := kCut (wc := [(jM, kMo vs (.ref lt) (.ref tx) (.int (nI (be))) (.int (nI (en))) (.int (nI (a1_55))) (.int xf_56) (.int xd_57) (((v14 : Value) : Value) : Value) (((v15 : Value) : Value) : Value) (.ref q6) (.ref q7) (((v18 : Value) : Value) : Value)), (tx, .inl (cT, nT, .inl gT))]) hP hD hS hA [0, 1] rfl (by decide) rfl
      have hKc := hK.sb (tys2 := [(cT, .byte)]) [0] rfl
      refine va_calli (va_runV (As := [.int 93]) (rest := []) ⟨hx, hb, hml, hown, hts⟩ (s_takes10 l dC dI jM vs (.int xd_57 : Value) ((((v14 : Value) : Value) : Value) : Value) ((((v15 : Value) : Value) : Value) : Value) ((((v18 : Value) : Value) : Value) : Value) lt q6 q7 tx cT nT gT be en a1_55 (by omega) (by omega) (by omega) xf_56 93 (by decide) H.size) (cwV 1 hts (kG (List.forall_mem_cons.mpr ⟨(List.mem_cons_of_mem _ (List.mem_append_left _ (List.mem_of_getElem? (i := 51) rfl))), (List.forall_mem_cons.mpr ⟨(List.mem_cons_of_mem _ (List.mem_append_left _ (List.mem_of_getElem? (i := 50) rfl))), (List.forall_mem_cons.mpr ⟨(List.mem_cons_of_mem _ (List.mem_append_left _ (List.mem_of_getElem? (i := 49) rfl))), (List.forall_mem_cons.mpr ⟨(List.mem_cons_of_mem _ (List.mem_append_left _ (List.mem_of_getElem? (i := 0) rfl))), (fun _ h => absurd h List.not_mem_nil)⟩)⟩)⟩)⟩) (kGV _ _ _ _) (fun _ h => List.mem_cons_of_mem _ (List.mem_append_right _ (List.mem_append_right _ (List.mem_append_right _ (List.mem_append_right _ (List.mem_append_right _ (List.mem_append_right _ (List.mem_append_right _ (List.mem_append_right _ (List.mem_append_right _ (List.mem_append_right _ (List.mem_append_left _ h)))))))))))) gw_s_takes10) rfl rfl rfl ⟨rfl, hd_X10_takes⟩ ⟨(Nat.le_of_ble_eq_true rfl), (Nat.le_of_ble_eq_true rfl)⟩) (kW_V kT_blind kT_give (va_recv hKc hPc (ci := 10) (q0 := 0) rfl rfl) hPc hKc hDc) rfl rfl hl.1 rfl (lv_room (Nat.le_of_ble_eq_true rfl)) dX10_atom_56 ⟨(Nat.le_of_ble_eq_true rfl), (Nat.le_of_ble_eq_true rfl)⟩) hS (fun q _ h => hFc q h) hFc (fun r_59 u t H1 locs ht hvm hw hB hz1 hk1 hS => ?_)
      obtain ⟨a1_60, xf_61⟩ := u
      obtain ⟨hP1, hK1, hD1⟩ := hB
      rw [ht] at hP1
      try dsimp only at hw
      obtain ⟨hP, hD⟩ : kPD dC dI A [(jM, kMo vs (.ref lt) (.ref tx) (.int (nI (be))) (.int (nI (en))) (.int (nI (a1_60))) (.int xf_61) (.int xd_57) ((((v14 : Value) : Value) : Value) : Value) ((((v15 : Value) : Value) : Value) : Value) (.ref q6) (.ref q7) ((((v18 : Value) : Value) : Value) : Value)), (tx, .inl (cT, nT, .inl gT)), (lt, .inl (cE, 128, .inl gE))] H1 := kJoinI hP hD [0, 1] rfl hk1 hFc hP1 hD1 rfl [some 0, some 1, none] rfl rfl
      generalize H1 = H at hP hS ⊢
      have hw_62 := hw
      have hw_62_0 := hw_62.2.1
      refine lv_if_ne (tgt := 64) hx hb dX10_atom_59 (by decide) (fun c_63 => ?_) (fun c_63 => ?_)
      · obtain ⟨e_64, e_64_2⟩ := hw_62.2.2.2 c_63
        have e_64_3 := hw_58.2 e_64
        subst e_64_3
        subst e_64_2
        refine lv_aload_n hx hb dX10_atom_64 rfl (lv_at hl 2 rfl) ?_
        refine lv_dup hx hb dX10_atom_65 rfl ?_
        refine va_get (D := (dC, dI)) (ci := 10) (v := .int 3) (C := RX10) (T := TX10) (N := 52) hx hb hts (fun _ h => List.mem_cons_of_mem _ (List.mem_append_right _ (List.mem_append_right _ (List.mem_append_left _ h)))) hown hK hP 0 rfl rfl 13 (by decide) (hts (.fieldLink RX10 153 "NotEndedModel" "deep" "I") (List.mem_cons_of_mem _ (List.mem_append_left _ (List.mem_of_getElem? (i := 52) rfl)))) (fun _ h9 => h9) rfl dX10_atom_66 ?_
        refine lv_iconst (v := 1) hx hb dX10_atom_69 (by decide) ?_
        refine lv_isub hx hb dX10_atom_70 ?_
        refine lv_topi (fun y_65 ey_65 => ?_)
        obtain rfl : y_65 = 2 := ey_65.trans (by decide)
        refine va_put (D := (dC, dI)) (ci := 10) (v := .int 2) (ty := tyX10 13) (C := RX10) (T := TX10) (N := 52) hx hb hts (fun _ h => List.mem_cons_of_mem _ (List.mem_append_right _ (List.mem_append_right _ (List.mem_append_left _ h)))) tyX10 tyX10_ok nmX10 hown hK hP hD hS 0 rfl rfl 13 (by decide) (hts (.fieldLink RX10 153 "NotEndedModel" "deep" "I") (List.mem_cons_of_mem _ (List.mem_append_left _ (List.mem_of_getElem? (i := 52) rfl)))) (fun _ h9 => h9) rfl (tyX10_ok 13 (by decide)) rfl rfl (Nat.le_of_ble_eq_true rfl) dX10_atom_71 (fun H locs hP hD hS => ?_)
        obtain ⟨hP, hD⟩ : kPD dC dI A [(jM, kMo vs (.ref lt) (.ref tx) (.int (nI (be))) (.int (nI (en))) (.int (nI (a1_60))) (.int (-1)) (.int 2) ((((v14 : Value) : Value) : Value) : Value) ((((v15 : Value) : Value) : Value) : Value) (.ref q6) (.ref q7) ((((v18 : Value) : Value) : Value) : Value)), (tx, .inl (cT, nT, .inl gT)), (lt, .inl (cE, 128, .inl gE))] H := ⟨hP, hD⟩
        refine lv_iload_n hx hb dX10_atom_74 rfl (lv_at hl 0 rfl) ?_
        have hP9 := hP
        have hD9 := hD
        have hK9 := hK
        rw [hQ]
        exact W.iret (v := r_54) hx hb hr (fun t ht hW => ⟨⟨r_54, (a1_60, (-1), 2), rfl, ⟨by omega, (fun _ => rfl)⟩,  by rw [ht]; exact hP9, va_K.moved hW.alike hK9, hD9⟩, hS.F ht⟩) hS.2.2 dX10_atom_75
      · have e_66 := hw_62.2.2.1 c_63
        refine lv_iconst (v := 0) hx hb dX10_atom_62 (by decide) ?_
        have hP9 := hP
        have hD9 := hD
        have hK9 := hK
        rw [hQ]
        exact W.iret (v := 0) hx hb hr (fun t ht hW => ⟨⟨0, (a1_60, xf_61, xd_57), rfl, ⟨by omega, (fun z9 => absurd z9 e_66)⟩,  by rw [ht]; exact hP9, va_K.moved hW.alike hK9, hD9⟩, hS.F ht⟩) hS.2.2 dX10_atom_63
  · obtain ⟨j_67, hj_67, ej_67⟩ := hw_5 c_6
    subst ej_67
    have hns_68 := hw_3.1.resolve_left (kNeM (n := j_67) (by omega))
    have hns_68_1 := hns_68.1
    refine lv_aload_n hx hb dX10_atom_16 rfl (lv_at hl 1 rfl) ?_
    refine lv_dup hx hb dX10_atom_17 rfl ?_
    refine va_get (D := (dC, dI)) (ci := 10) (v := .int (nI (a1_2))) (C := RX10) (T := TX10) (N := 52) hx hb hts (fun _ h => List.mem_cons_of_mem _ (List.mem_append_right _ (List.mem_append_right _ (List.mem_append_left _ h)))) hown hK hP 0 rfl rfl 11 (by decide) (hts (.fieldLink RX10 141 "NotEndedModel" "at" "I") (List.mem_cons_of_mem _ (List.mem_append_left _ (List.mem_of_getElem? (i := 13) rfl)))) (fun _ h9 => h9) rfl dX10_atom_18 ?_
    refine lv_iconst (v := 1) hx hb dX10_atom_21 (by decide) ?_
    refine lv_iadd hx hb dX10_atom_22 ?_
    refine lv_topi (fun y_69 ey_69 => ?_)
    obtain rfl : y_69 = nI (a1_2 + 1) := ey_69.trans (nI_add (a1_2) (1))
    refine va_put (D := (dC, dI)) (ci := 10) (v := .int (nI (a1_2 + 1))) (ty := tyX10 11) (C := RX10) (T := TX10) (N := 52) hx hb hts (fun _ h => List.mem_cons_of_mem _ (List.mem_append_right _ (List.mem_append_right _ (List.mem_append_left _ h)))) tyX10 tyX10_ok nmX10 hown hK hP hD hS 0 rfl rfl 11 (by decide) (hts (.fieldLink RX10 141 "NotEndedModel" "at" "I") (List.mem_cons_of_mem _ (List.mem_append_left _ (List.mem_of_getElem? (i := 13) rfl)))) (fun _ h9 => h9) rfl (tyX10_ok 11 (by decide)) rfl rfl (Nat.le_of_ble_eq_true rfl) dX10_atom_23 (fun H locs hP hD hS => ?_)
    obtain ⟨hP, hD⟩ : kPD dC dI A [(jM, kMo vs (.ref lt) (.ref tx) (.int (nI (be))) (.int (nI (en))) (.int (nI (a1_2 + 1))) (.int (-1)) (.int 2) (v14 : Value) (v15 : Value) (.ref q6) (.ref q7) (v18 : Value)), (tx, .inl (cT, nT, .inl gT)), (lt, .inl (cE, 128, .inl gE))] H := ⟨hP, hD⟩
    refine lv_aload_n hx hb dX10_atom_26 rfl (lv_at hl 1 rfl) ?_
    refine va_get (D := (dC, dI)) (ci := 10) (v := .ref lt) (C := RX10) (T := TX10) (N := 52) hx hb hts (fun _ h => List.mem_cons_of_mem _ (List.mem_append_right _ (List.mem_append_right _ (List.mem_append_left _ h)))) hown hK hP 0 rfl rfl 4 (by decide) (hts (.fieldLink RX10 20 "NotEndedModel" "letters" "[I") (List.mem_cons_of_mem _ (List.mem_append_left _ (List.mem_of_getElem? (i := 20) rfl)))) (fun _ h9 => h9) rfl dX10_atom_27 ?_
    refine lv_iload_n hx hb dX10_atom_30 rfl (lv_at hl 0 rfl) ?_
    refine va_iald hx hb hK hP 2 1 rfl rfl (vp_in_nI (n := j_67) (N := 128) (by omega) (by omega)) dX10_atom_31 ?_
    refine lv_topi (fun x_70 ex_70 => ?_)
    have hP9 := hP
    have hD9 := hD
    have hK9 := hK
    rw [hQ]
    exact W.iret (v := x_70) hx hb hr (fun t ht hW => ⟨⟨x_70, ((a1_2 + 1), (-1), 2), rfl, ⟨by omega, (fun _ => rfl)⟩,  by rw [ht]; exact hP9, va_K.moved hW.alike hK9, hD9⟩, hS.F ht⟩) hS.2.2 dX10_atom_32

def w_s_term10_2 : List Cond := .code yX10_term cX10_term 5 (some .int) :: wf_md
theorem gw_s_term10_2 : (w_s_term10_2).all goodWord = true := kFamG rfl gf_md
set_option maxHeartbeats 4000000 in
set_option maxRecDepth 100000 in
theorem s_term10_2 (l : Launch) (dC : Nat → ClassId) (dI : Nat → Nat → Nat) (jM : Nat) (vs : Nat → Value) (v14 : Value) (v15 : Value) (v18 : Value) (lt : Nat) (q6 : Nat) (q7 : Nat) (tx : Nat) (cT : ClassId) (nT : Nat) (gT : Nat → Int32) (be : Nat) (en : Nat) (a : Nat) (hbe : be + en ≤ nT) (hnT : nT ≤ 1680) (ha : a ≤ en) (cE : ClassId) (gE : Nat → Int32) (b6 : Nat) (n6 : Nat) (g6 : Nat → Int32) (hn6 : n6 ≤ 8) (hg6 : ∀ k : Nat, ∃ v : Nat, v < 128 ∧ g6 k = nI v) (b7 : Nat) (n7 : Nat) (g7 : Nat → Int32) (hn7 : n7 ≤ 8) (hg7 : ∀ k : Nat, ∃ v : Nat, v < 128 ∧ g7 k = nI v) (sz : Nat) : Met l yX10_term w_s_term10_2 ({ frames := 36, cells := 0, slots := 0, locals := 2160 }) (kW dC dI [.ref jM] [(jM, kMo vs (.ref lt) (.ref tx) (.int (nI (be))) (.int (nI (en))) (.int (nI (a))) (.int (-1)) (.int 2) v14 v15 (.ref q6) (.ref q7) v18), (tx, .inl (cT, nT, .inl gT)), (lt, .inl (cE, 128, .inl gE))] [(cT, .byte), (cE, .int)] (kS2 q6 b6 n6 g6 q7 b7 n7 g7 (va_A [(jM, kMo vs (.ref lt) (.ref tx) (.int (nI (be))) (.int (nI (en))) (.int (nI (a))) (.int (-1)) (.int 2) v14 v15 (.ref q6) (.ref q7) v18), (tx, .inl (cT, nT, .inl gT)), (lt, .inl (cE, 128, .inl gE))] sz)) sz) (va_Qi (fun (r : Int32) (u : Nat × Int32 × Int32) => match u with | (a1, xf, xd) => ((a ≤ a1 ∧ a1 ≤ en) ∧ (xf = -1 → xd = 2))) (fun (u : Nat × Int32 × Int32) => match u with | (a1, xf, xd) => fun t : State => kB dC dI [(jM, kMo vs (.ref lt) (.ref tx) (.int (nI (be))) (.int (nI (en))) (.int (nI (a1))) (.int xf) (.int xd) v14 v15 (.ref q6) (.ref q7) v18), (tx, .inl (cT, nT, .inl gT)), (lt, .inl (cE, 128, .inl gE))] [(cT, .byte), (cE, .int)] (va_A [(jM, kMo vs (.ref lt) (.ref tx) (.int (nI (be))) (.int (nI (en))) (.int (nI (a))) (.int (-1)) (.int 2) v14 v15 (.ref q6) (.ref q7) v18), (tx, .inl (cT, nT, .inl gT)), (lt, .inl (cE, 128, .inl gE))] sz) t) (va_A [(jM, kMo vs (.ref lt) (.ref tx) (.int (nI (be))) (.int (nI (en))) (.int (nI (a))) (.int (-1)) (.int 2) v14 v15 (.ref q6) (.ref q7) v18), (tx, .inl (cT, nT, .inl gT)), (lt, .inl (cE, 128, .inl gE))] sz)) 0 0 (va_A [(jM, kMo vs (.ref lt) (.ref tx) (.int (nI (be))) (.int (nI (en))) (.int (nI (a))) (.int (-1)) (.int 2) v14 v15 (.ref q6) (.ref q7) v18), (tx, .inl (cT, nT, .inl gT)), (lt, .inl (cE, 128, .inl gE))] sz) := by
  refine Met.ofW (cc := cX10_term) (maxL := 5) (ret := (some .int)) (by decide) rfl ?_
  intro p e s m args below meth c s₁ B hml hv
  obtain ⟨rfl, hsz, hP, hK, hD0, hX⟩ := hv
  have hx := B.exec
  have hb := B.bytes
  have hr := B.returns
  have hts := atoms_spec (ws := w_s_term10_2) B.pre
  have hown : s.vm.findClass RX10 = some m.cls := findClass_of_methodNamed B.named
  have hlocks := B.notSynchronized
  subst hsz
  have hD := hD0.self (sz := s.heap.size)
  generalize hAe : va_A [(jM, kMo vs (.ref lt) (.ref tx) (.int (nI (be))) (.int (nI (en))) (.int (nI (a))) (.int (-1)) (.int 2) v14 v15 (.ref q6) (.ref q7) v18), (tx, .inl (cT, nT, .inl gT)), (lt, .inl (cE, 128, .inl gE))] s.heap.size = A at hD hX ⊢
  have hA : ∀ q : Nat, s.heap.size ≤ q → A q := fun q h => by rw [← hAe]; exact Or.inr h
  have hS : va_S A s.heap s.heap [] := va_S.rf
  have hP : va_P (dC, dI) vwCl [(jM, kMo vs (.ref lt) (.ref tx) (.int (nI (be))) (.int (nI (en))) (.int (nI (a))) (.int (-1)) (.int 2) v14 v15 (.ref q6) (.ref q7) v18), (tx, .inl (cT, nT, .inl gT)), (lt, .inl (cE, 128, .inl gE))] s.heap := hP
  have hl := lv_entry ([.ref jM]) (n := 5) (Nat.le_of_ble_eq_true rfl)
  rw [lg_entry_eq]
  generalize (lg_sl ([.ref jM]) ++ List.replicate (5 - (lg_sl ([.ref jM])).length) Slot.unset).toArray = ls at hl ⊢
  have hl : lv_has ls 5 [(0, .ref jM)] := hl
  refine kQ (fun Q hQ => ?_)
  refine lv_aload_n hx hb dX10_term_0 rfl (lv_at hl 0 rfl) ?_
  obtain ⟨hPc, hDc, hFc⟩ := kCut (wc := [(jM, kMo vs (.ref lt) (.ref tx) (.int (nI (be))) (.int (nI (en))) (.int (nI (a))) (.int (-1)) (.int 2) v14 v15 (.ref q6) (.ref q7) v18), (tx, .inl (cT, nT, .inl gT)), (lt, .inl (cE, 128, .inl gE))]) hP hD hS hA [0, 1, 2] rfl (by decide) rfl
  have hKc := hK.sb (tys2 := [(cT, .byte), (cE, .int)]) [0, 1] rfl
  refine va_calli (va_runV (As := []) (rest := []) ⟨hx, hb, hml, hown, hts⟩ (s_atom10_2 l dC dI jM vs (v14 : Value) (v15 : Value) (v18 : Value) lt q6 q7 tx cT nT gT be en a (by omega) (by omega) (by omega) cE gE b6 n6 g6 hn6 hg6 b7 n7 g7 hn7 hg7 s.heap.size) (cwV 0 hts (kG (List.forall_mem_cons.mpr ⟨(List.mem_cons_of_mem _ (List.mem_append_left _ (List.mem_of_getElem? (i := 24) rfl))), (List.forall_mem_cons.mpr ⟨(List.mem_cons_of_mem _ (List.mem_append_left _ (List.mem_of_getElem? (i := 23) rfl))), (List.forall_mem_cons.mpr ⟨(List.mem_cons_of_mem _ (List.mem_append_left _ (List.mem_of_getElem? (i := 22) rfl))), (List.forall_mem_cons.mpr ⟨(List.mem_cons_of_mem _ (List.mem_append_left _ (List.mem_of_getElem? (i := 0) rfl))), (fun _ h => absurd h List.not_mem_nil)⟩)⟩)⟩)⟩) (kGV _ _ _ _) (kFam (List.mem_cons_of_mem _ (List.mem_append_left _ (List.mem_of_getElem? (i := 21) rfl)))) gw_s_atom10_2) rfl rfl rfl ⟨rfl, hd_X10_atom⟩ ⟨(Nat.le_of_ble_eq_true rfl), (Nat.le_of_ble_eq_true rfl)⟩) (kW_V kS2_blind (kS2_give hX hS hFc) (va_recv hKc hPc (ci := 10) (q0 := 0) rfl rfl) hPc hKc hDc) rfl rfl hl.1 rfl (lv_room (Nat.le_of_ble_eq_true rfl)) dX10_term_1 ⟨(Nat.le_of_ble_eq_true rfl), (Nat.le_of_ble_eq_true rfl)⟩) hS (fun q _ h => hFc q h) hFc (fun r_1 u t H1 locs ht hvm hw hB hz1 hk1 hS => ?_)
  obtain ⟨a1_2, xf_3, xd_4⟩ := u
  obtain ⟨hP1, hK1, hD1⟩ := hB
  rw [ht] at hP1
  try dsimp only at hw
  obtain ⟨hP, hD⟩ : kPD dC dI A [(jM, kMo vs (.ref lt) (.ref tx) (.int (nI (be))) (.int (nI (en))) (.int (nI (a1_2))) (.int xf_3) (.int xd_4) (v14 : Value) (v15 : Value) (.ref q6) (.ref q7) (v18 : Value)), (tx, .inl (cT, nT, .inl gT)), (lt, .inl (cE, 128, .inl gE))] H1 := kJoinI hP hD [0, 1, 2] rfl hk1 hFc hP1 hD1 rfl [some 0, some 1, some 2] rfl rfl
  generalize H1 = H at hP hS ⊢
  have hw_5 := hw
  have hw_5_a := hw_5.1
  refine lv_istore_n hx hb dX10_term_4 rfl hl (by decide) (kTo [(1, .int r_1), (0, .ref jM)]) (fun ls hl => ?_)
  have lp_k_6 : ∀ (n9 : Nat) (i : Nat) (lf : Int32) (ld : Int32) (xv : Int32) (ivk_6_0 : (a ≤ i ∧ i ≤ en)) (ivk_6_1 : (lf = -1 → ld = 2)) (H : Heap) (locs : List Loc) (_ : va_P (dC, dI) vwCl [(jM, kMo vs (.ref lt) (.ref tx) (.int (nI (be))) (.int (nI (en))) (.int (nI (i))) (.int lf) (.int ld) (v14 : Value) (v15 : Value) (.ref q6) (.ref q7) (v18 : Value)), (tx, .inl (cT, nT, .inl gT)), (lt, .inl (cE, 128, .inl gE))] H) (_ : va_D A [(jM, kMo vs (.ref lt) (.ref tx) (.int (nI (be))) (.int (nI (en))) (.int (nI (i))) (.int lf) (.int ld) (v14 : Value) (v15 : Value) (.ref q6) (.ref q7) (v18 : Value)), (tx, .inl (cT, nT, .inl gT)), (lt, .inl (cE, 128, .inl gE))]) (_ : va_S A s.heap H locs) (ls : Array Slot) (_ : lv_has ls 5 [(1, .int xv), (0, .ref jM)]) (_ : en - i < n9), W p l e (headSpec w_s_term10_2 ({ frames := 36, cells := 0, slots := 0, locals := 2160 })).room s m (#[.ref jM] : Array Value) below meth c H locs 0 0 Q (F0 m 5 ls []) := by
    intro n9
    induction n9 with
    | zero => intro i lf ld xv ivk_6_0 ivk_6_1 H locs hP hD hS ls hl hm9; exact absurd hm9 (Nat.not_lt_zero _)
    | succ n9 ih_k_6 =>
      intro i lf ld xv ivk_6_0 ivk_6_1 H locs hP hD hS ls hl hm9
      refine lv_aload_n hx hb dX10_term_5 rfl (lv_at hl 1 rfl) ?_
      refine va_get (D := (dC, dI)) (ci := 10) (v := .int lf) (C := RX10) (T := TX10) (N := 52) hx hb hts (fun _ h => List.mem_cons_of_mem _ (List.mem_append_right _ (List.mem_append_right _ (List.mem_append_left _ h)))) hown hK hP 0 rfl rfl 12 (by decide) (hts (.fieldLink RX10 150 "NotEndedModel" "fault" "I") (List.mem_cons_of_mem _ (List.mem_append_left _ (List.mem_of_getElem? (i := 10) rfl)))) (fun _ h9 => h9) rfl dX10_term_6 ?_
      refine lv_iconst (v := (-1)) hx hb dX10_term_9 (by decide) ?_
      refine lv_icmp_ne (tgt := 94) hx hb dX10_term_10 (by decide) (fun c_7 => ?_) (fun c_7 => ?_)
      · refine lv_iload_n hx hb dX10_term_94 rfl (lv_at hl 0 rfl) ?_
        have hP9 := hP
        have hD9 := hD
        have hK9 := hK
        rw [hQ]
        exact W.iret (v := xv) hx hb hr (fun t ht hW => ⟨⟨xv, (i, lf, ld), rfl, ⟨by omega, ivk_6_1⟩,  by rw [ht]; exact hP9, va_K.moved hW.alike hK9, hD9⟩, hS.F ht⟩) hS.2.2 dX10_term_95
      · have e_8 := ivk_6_1 c_7
        subst e_8
        subst c_7
        refine lv_aload_n hx hb dX10_term_13 rfl (lv_at hl 1 rfl) ?_
        obtain ⟨hPc, hDc, hFc⟩ := kCut (wc := [(jM, kMo vs (.ref lt) (.ref tx) (.int (nI (be))) (.int (nI (en))) (.int (nI (i))) (.int (-1)) (.int 2) (v14 : Value) (v15 : Value) (.ref q6) (.ref q7) (v18 : Value)), (tx, .inl (cT, nT, .inl gT))]) hP hD hS hA [0, 1] rfl (by decide) rfl
        have hKc := hK.sb (tys2 := [(cT, .byte)]) [0] rfl
        refine va_calli (va_runV (As := []) (rest := []) ⟨hx, hb, hml, hown, hts⟩ (s_look10 l dC dI jM vs (.int (-1) : Value) (.int 2 : Value) ((v14 : Value) : Value) ((v15 : Value) : Value) ((v18 : Value) : Value) lt q6 q7 tx cT nT gT be en i (by omega) (by omega) (by omega) H.size) (cwV 0 hts (kG (List.forall_mem_cons.mpr ⟨(List.mem_cons_of_mem _ (List.mem_append_left _ (List.mem_of_getElem? (i := 3) rfl))), (List.forall_mem_cons.mpr ⟨(List.mem_cons_of_mem _ (List.mem_append_left _ (List.mem_of_getElem? (i := 2) rfl))), (List.forall_mem_cons.mpr ⟨(List.mem_cons_of_mem _ (List.mem_append_left _ (List.mem_of_getElem? (i := 1) rfl))), (List.forall_mem_cons.mpr ⟨(List.mem_cons_of_mem _ (List.mem_append_left _ (List.mem_of_getElem? (i := 0) rfl))), (fun _ h => absurd h List.not_mem_nil)⟩)⟩)⟩)⟩) (kGV _ _ _ _) (fun _ h => List.mem_cons_of_mem _ (List.mem_append_right _ (List.mem_append_left _ h))) gw_s_look10) rfl rfl rfl ⟨rfl, hd_X10_look⟩ ⟨(Nat.le_of_ble_eq_true rfl), (Nat.le_of_ble_eq_true rfl)⟩) (kW_V kT_blind kT_give (va_recv hKc hPc (ci := 10) (q0 := 0) rfl rfl) hPc hKc hDc) rfl rfl hl.1 rfl (lv_room (Nat.le_of_ble_eq_true rfl)) dX10_term_14 ⟨(Nat.le_of_ble_eq_true rfl), (Nat.le_of_ble_eq_true rfl)⟩) hS (fun q _ h => hFc q h) hFc (fun r_9 u t H1 locs ht hvm hw hB hz1 hk1 hS => ?_)
        obtain ⟨a1_10, rfl⟩ : ∃ z, z = u := ⟨_, rfl⟩
        obtain ⟨hP1, hK1, hD1⟩ := hB
        rw [ht] at hP1
        try dsimp only at hw
        obtain ⟨hP, hD⟩ : kPD dC dI A [(jM, kMo vs (.ref lt) (.ref tx) (.int (nI (be))) (.int (nI (en))) (.int (nI (a1_10))) (.int (-1)) (.int 2) ((v14 : Value) : Value) ((v15 : Value) : Value) (.ref q6) (.ref q7) ((v18 : Value) : Value)), (tx, .inl (cT, nT, .inl gT)), (lt, .inl (cE, 128, .inl gE))] H1 := kJoinI hP hD [0, 1] rfl hk1 hFc hP1 hD1 rfl [some 0, some 1, none] rfl rfl
        generalize H1 = H at hP hS ⊢
        have hw_11 := hw
        have hw_11_3 := hw_11.2.1
        refine lv_bipush (v := 42) hx hb dX10_term_17 (by decide) ?_
        refine lv_icmp_eq (tgt := 31) hx hb dX10_term_19 (by decide) (fun c_12 => ?_) (fun c_12 => ?_)
        · have hns_13 := hw_11.1.resolve_left (fun z9 => absurd (c_12.symm.trans z9) (by decide))
          have hns_13_1 := hns_13.1
          refine lv_aload_n hx hb dX10_term_31 rfl (lv_at hl 1 rfl) ?_
          obtain ⟨hPc, hDc, hFc⟩ := kCut (wc := [(jM, kMo vs (.ref lt) (.ref tx) (.int (nI (be))) (.int (nI (en))) (.int (nI (a1_10))) (.int (-1)) (.int 2) ((v14 : Value) : Value) ((v15 : Value) : Value) (.ref q6) (.ref q7) ((v18 : Value) : Value)), (tx, .inl (cT, nT, .inl gT))]) hP hD hS hA [0, 1] rfl (by decide) rfl
          have hKc := hK.sb (tys2 := [(cT, .byte)]) [0] rfl
          refine va_calli (va_runV (As := []) (rest := []) ⟨hx, hb, hml, hown, hts⟩ (s_look10 l dC dI jM vs (.int (-1) : Value) (.int 2 : Value) (((v14 : Value) : Value) : Value) (((v15 : Value) : Value) : Value) (((v18 : Value) : Value) : Value) lt q6 q7 tx cT nT gT be en a1_10 (by omega) (by omega) (by omega) H.size) (cwV 0 hts (kG (List.forall_mem_cons.mpr ⟨(List.mem_cons_of_mem _ (List.mem_append_left _ (List.mem_of_getElem? (i := 3) rfl))), (List.forall_mem_cons.mpr ⟨(List.mem_cons_of_mem _ (List.mem_append_left _ (List.mem_of_getElem? (i := 2) rfl))), (List.forall_mem_cons.mpr ⟨(List.mem_cons_of_mem _ (List.mem_append_left _ (List.mem_of_getElem? (i := 1) rfl))), (List.forall_mem_cons.mpr ⟨(List.mem_cons_of_mem _ (List.mem_append_left _ (List.mem_of_getElem? (i := 0) rfl))), (fun _ h => absurd h List.not_mem_nil)⟩)⟩)⟩)⟩) (kGV _ _ _ _) (fun _ h => List.mem_cons_of_mem _ (List.mem_append_right _ (List.mem_append_left _ h))) gw_s_look10) rfl rfl rfl ⟨rfl, hd_X10_look⟩ ⟨(Nat.le_of_ble_eq_true rfl), (Nat.le_of_ble_eq_true rfl)⟩) (kW_V kT_blind kT_give (va_recv hKc hPc (ci := 10) (q0 := 0) rfl rfl) hPc hKc hDc) rfl rfl hl.1 rfl (lv_room (Nat.le_of_ble_eq_true rfl)) dX10_term_32 ⟨(Nat.le_of_ble_eq_true rfl), (Nat.le_of_ble_eq_true rfl)⟩) hS (fun q _ h => hFc q h) hFc (fun r_14 u t H1 locs ht hvm hw hB hz1 hk1 hS => ?_)
          obtain ⟨a1_15, rfl⟩ : ∃ z, z = u := ⟨_, rfl⟩
          obtain ⟨hP1, hK1, hD1⟩ := hB
          rw [ht] at hP1
          try dsimp only at hw
          obtain ⟨hP, hD⟩ : kPD dC dI A [(jM, kMo vs (.ref lt) (.ref tx) (.int (nI (be))) (.int (nI (en))) (.int (nI (a1_15))) (.int (-1)) (.int 2) (((v14 : Value) : Value) : Value) (((v15 : Value) : Value) : Value) (.ref q6) (.ref q7) (((v18 : Value) : Value) : Value)), (tx, .inl (cT, nT, .inl gT)), (lt, .inl (cE, 128, .inl gE))] H1 := kJoinI hP hD [0, 1] rfl hk1 hFc hP1 hD1 rfl [some 0, some 1, none] rfl rfl
          generalize H1 = H at hP hS ⊢
          have hw_16 := hw
          have e_17 : a1_10 = a1_15 := (hw_16.2.2 hns_13).symm
          subst e_17
          refine lv_bipush (v := 42) hx hb dX10_term_35 (by decide) ?_
          refine lv_icmp_ne (tgt := 44) hx hb dX10_term_37 (by decide) (fun c_18 => ?_) (fun c_18 => ?_)
          · refine lv_iconst (v := 0) hx hb dX10_term_44 (by decide) ?_
            refine lv_istore_n hx hb dX10_term_45 rfl hl (by decide) (kTo [(2, .int 0), (1, .int xv), (0, .ref jM)]) (fun ls hl => ?_)
            refine lv_aload_n hx hb dX10_term_46 rfl (lv_at hl 2 rfl) ?_
            refine lv_dup hx hb dX10_term_47 rfl ?_
            refine va_get (D := (dC, dI)) (ci := 10) (v := .int (nI (a1_10))) (C := RX10) (T := TX10) (N := 52) hx hb hts (fun _ h => List.mem_cons_of_mem _ (List.mem_append_right _ (List.mem_append_right _ (List.mem_append_left _ h)))) hown hK hP 0 rfl rfl 11 (by decide) (hts (.fieldLink RX10 141 "NotEndedModel" "at" "I") (List.mem_cons_of_mem _ (List.mem_append_left _ (List.mem_of_getElem? (i := 13) rfl)))) (fun _ h9 => h9) rfl dX10_term_48 ?_
            refine lv_iconst (v := 1) hx hb dX10_term_51 (by decide) ?_
            refine lv_iadd hx hb dX10_term_52 ?_
            refine lv_topi (fun y_19 ey_19 => ?_)
            obtain rfl : y_19 = nI (a1_10 + 1) := ey_19.trans (nI_add (a1_10) (1))
            refine va_put (D := (dC, dI)) (ci := 10) (v := .int (nI (a1_10 + 1))) (ty := tyX10 11) (C := RX10) (T := TX10) (N := 52) hx hb hts (fun _ h => List.mem_cons_of_mem _ (List.mem_append_right _ (List.mem_append_right _ (List.mem_append_left _ h)))) tyX10 tyX10_ok nmX10 hown hK hP hD hS 0 rfl rfl 11 (by decide) (hts (.fieldLink RX10 141 "NotEndedModel" "at" "I") (List.mem_cons_of_mem _ (List.mem_append_left _ (List.mem_of_getElem? (i := 13) rfl)))) (fun _ h9 => h9) rfl (tyX10_ok 11 (by decide)) rfl rfl (Nat.le_of_ble_eq_true rfl) dX10_term_53 (fun H locs hP hD hS => ?_)
            obtain ⟨hP, hD⟩ : kPD dC dI A [(jM, kMo vs (.ref lt) (.ref tx) (.int (nI (be))) (.int (nI (en))) (.int (nI (a1_10 + 1))) (.int (-1)) (.int 2) (((v14 : Value) : Value) : Value) (((v15 : Value) : Value) : Value) (.ref q6) (.ref q7) (((v18 : Value) : Value) : Value)), (tx, .inl (cT, nT, .inl gT)), (lt, .inl (cE, 128, .inl gE))] H := ⟨hP, hD⟩
            refine lv_aload_n hx hb dX10_term_56 rfl (lv_at hl 2 rfl) ?_
            obtain ⟨hPc, hDc, hFc⟩ := kCut (wc := [(jM, kMo vs (.ref lt) (.ref tx) (.int (nI (be))) (.int (nI (en))) (.int (nI (a1_10 + 1))) (.int (-1)) (.int 2) (((v14 : Value) : Value) : Value) (((v15 : Value) : Value) : Value) (.ref q6) (.ref q7) (((v18 : Value) : Value) : Value)), (tx, .inl (cT, nT, .inl gT)), (lt, .inl (cE, 128, .inl gE))]) hP hD hS hA [0, 1, 2] rfl (by decide) rfl
            have hKc := hK.sb (tys2 := [(cT, .byte), (cE, .int)]) [0, 1] rfl
            refine va_calli (va_runV (As := []) (rest := []) ⟨hx, hb, hml, hown, hts⟩ (s_atom10_2 l dC dI jM vs ((((v14 : Value) : Value) : Value) : Value) ((((v15 : Value) : Value) : Value) : Value) ((((v18 : Value) : Value) : Value) : Value) lt q6 q7 tx cT nT gT be en (a1_10 + 1) (by omega) (by omega) (by omega) cE gE b6 n6 g6 hn6 hg6 b7 n7 g7 hn7 hg7 H.size) (cwV 0 hts (kG (List.forall_mem_cons.mpr ⟨(List.mem_cons_of_mem _ (List.mem_append_left _ (List.mem_of_getElem? (i := 24) rfl))), (List.forall_mem_cons.mpr ⟨(List.mem_cons_of_mem _ (List.mem_append_left _ (List.mem_of_getElem? (i := 23) rfl))), (List.forall_mem_cons.mpr ⟨(List.mem_cons_of_mem _ (List.mem_append_left _ (List.mem_of_getElem? (i := 22) rfl))), (List.forall_mem_cons.mpr ⟨(List.mem_cons_of_mem _ (List.mem_append_left _ (List.mem_of_getElem? (i := 0) rfl))), (fun _ h => absurd h List.not_mem_nil)⟩)⟩)⟩)⟩) (kGV _ _ _ _) (kFam (List.mem_cons_of_mem _ (List.mem_append_left _ (List.mem_of_getElem? (i := 21) rfl)))) gw_s_atom10_2) rfl rfl rfl ⟨rfl, hd_X10_atom⟩ ⟨(Nat.le_of_ble_eq_true rfl), (Nat.le_of_ble_eq_true rfl)⟩) (kW_V kS2_blind (kS2_give hX hS hFc) (va_recv hKc hPc (ci := 10) (q0 := 0) rfl rfl) hPc hKc hDc) rfl rfl hl.1 rfl (lv_room (Nat.le_of_ble_eq_true rfl)) dX10_term_57 ⟨(Nat.le_of_ble_eq_true rfl), (Nat.le_of_ble_eq_true rfl)⟩) hS (fun q _ h => hFc q h) hFc (fun r_20 u t H1 locs ht hvm hw hB hz1 hk1 hS => ?_)
            obtain ⟨a1_21, xf_22, xd_23⟩ := u
            obtain ⟨hP1, hK1, hD1⟩ := hB
            rw [ht] at hP1
            try dsimp only at hw
            obtain ⟨hP, hD⟩ : kPD dC dI A [(jM, kMo vs (.ref lt) (.ref tx) (.int (nI (be))) (.int (nI (en))) (.int (nI (a1_21))) (.int xf_22) (.int xd_23) ((((v14 : Value) : Value) : Value) : Value) ((((v15 : Value) : Value) : Value) : Value) (.ref q6) (.ref q7) ((((v18 : Value) : Value) : Value) : Value)), (tx, .inl (cT, nT, .inl gT)), (lt, .inl (cE, 128, .inl gE))] H1 := kJoinI hP hD [0, 1, 2] rfl hk1 hFc hP1 hD1 rfl [some 0, some 1, some 2] rfl rfl
            generalize H1 = H at hP hS ⊢
            have hw_24 := hw
            have hw_24_a := hw_24.1
            obtain ⟨z_25, ez_25⟩ : ∃ z : Int64, z = Int32.toInt64 r_20 := ⟨_, rfl⟩
            refine lv_i2l (v := z_25) hx hb dX10_term_60 ez_25.symm ?_
            refine lv_lstore_n hx hb dX10_term_61 rfl hl (by decide) (kTo [(3, .long z_25), (2, .int 0), (1, .int xv), (0, .ref jM)]) (fun ls hl => ?_)
            refine lv_iload_n hx hb dX10_term_62 rfl (lv_at hl 1 rfl) ?_
            refine lv_if_eq (tgt := 73) hx hb dX10_term_63 (by decide) (fun c_26 => ?_) (fun c_26 => absurd (by decide) c_26)
            refine lv_lload_n hx hb dX10_term_73 rfl (lv_at hl 0 rfl) ?_
            refine lv_lconst (v := 0) hx hb dX10_term_74 (by decide) ?_
            refine W.lcmp hx hb dX10_term_75 ?_
            refine lv_topi (fun x_27 ex_27 => ?_)
            refine lv_if_ne (tgt := 83) hx hb dX10_term_76 (by decide) (fun c_28 => ?_) (fun c_28 => ?_)
            · refine lv_iload_n hx hb dX10_term_83 rfl (lv_at hl 2 rfl) ?_
              obtain ⟨z_29, ez_29⟩ : ∃ z : Int64, z = Int32.toInt64 xv := ⟨_, rfl⟩
              refine lv_i2l (v := z_29) hx hb dX10_term_84 ez_29.symm ?_
              refine lv_lload_n hx hb dX10_term_85 rfl (lv_at hl 0 rfl) ?_
              refine lv_ldiv hx hb dX10_term_86 (kLne ex_27 c_28) ?_
              refine lv_topl (fun z_30 ez_30 => ?_)
              have hPc := hP.sb (ws2 := []) [] rfl
              have hKc := hK.sb (tys2 := []) [] rfl
              refine vp_callSi (va_runS (As := [.long z_30]) (rest := []) ⟨hx, hb, hml, hown, hts⟩ (s_within10 l dC dI z_30) (va_cwS 1 hts (kG (List.forall_mem_cons.mpr ⟨(List.mem_cons_of_mem _ (List.mem_append_left _ (List.mem_of_getElem? (i := 26) rfl))), (List.forall_mem_cons.mpr ⟨(List.mem_cons_of_mem _ (List.mem_append_left _ (List.mem_of_getElem? (i := 25) rfl))), (List.forall_mem_cons.mpr ⟨(List.mem_cons_of_mem _ (List.mem_append_left _ (List.mem_of_getElem? (i := 0) rfl))), (fun _ h => absurd h List.not_mem_nil)⟩)⟩)⟩) (kGS _ _ _) (fun _ h => List.mem_cons_of_mem _ (List.mem_append_right _ (List.mem_append_right _ (List.mem_append_right _ (List.mem_append_right _ (List.mem_append_right _ (List.mem_append_right _ (List.mem_append_right _ (List.mem_append_left _ h))))))))) gw_s_within10) rfl rfl rfl hd_X10_within ⟨(Nat.le_of_ble_eq_true rfl), (Nat.le_of_ble_eq_true rfl)⟩) (kR_S kT_blind kT_give hPc hKc) rfl rfl hl.1 rfl (lv_room (Nat.le_of_ble_eq_true rfl)) dX10_term_87 ⟨(Nat.le_of_ble_eq_true rfl), (Nat.le_of_ble_eq_true rfl)⟩).run (fun r_31 hw => ?_)
              refine lv_istore_n hx hb dX10_term_90 rfl hl (by decide) (kTo [(1, .int r_31), (3, .long z_25), (2, .int 0), (0, .ref jM)]) (fun ls hl => ?_)
              refine lv_goto (tgt := 5) hx hb dX10_term_91 (by decide) ?_
              exact ih_k_6 a1_21 xf_22 xd_23 r_31 (by omega) hw_24.2 _ _ hP hD hS ls (lv_sub hl [0, 3] rfl) (by omega)
            · refine lv_lconst (v := 0) hx hb dX10_term_79 (by decide) ?_
              refine lv_goto (tgt := 87) hx hb dX10_term_80 (by decide) ?_
              have hPc := hP.sb (ws2 := []) [] rfl
              have hKc := hK.sb (tys2 := []) [] rfl
              refine vp_callSi (va_runS (As := [.long 0]) (rest := []) ⟨hx, hb, hml, hown, hts⟩ (s_within10 l dC dI 0) (va_cwS 1 hts (kG (List.forall_mem_cons.mpr ⟨(List.mem_cons_of_mem _ (List.mem_append_left _ (List.mem_of_getElem? (i := 26) rfl))), (List.forall_mem_cons.mpr ⟨(List.mem_cons_of_mem _ (List.mem_append_left _ (List.mem_of_getElem? (i := 25) rfl))), (List.forall_mem_cons.mpr ⟨(List.mem_cons_of_mem _ (List.mem_append_left _ (List.mem_of_getElem? (i := 0) rfl))), (fun _ h => absurd h List.not_mem_nil)⟩)⟩)⟩) (kGS _ _ _) (fun _ h => List.mem_cons_of_mem _ (List.mem_append_right _ (List.mem_append_right _ (List.mem_append_right _ (List.mem_append_right _ (List.mem_append_right _ (List.mem_append_right _ (List.mem_append_right _ (List.mem_append_left _ h))))))))) gw_s_within10) rfl rfl rfl hd_X10_within ⟨(Nat.le_of_ble_eq_true rfl), (Nat.le_of_ble_eq_true rfl)⟩) (kR_S kT_blind kT_give hPc hKc) rfl rfl hl.1 rfl (lv_room (Nat.le_of_ble_eq_true rfl)) dX10_term_87 ⟨(Nat.le_of_ble_eq_true rfl), (Nat.le_of_ble_eq_true rfl)⟩).run (fun r_32 hw => ?_)
              refine lv_istore_n hx hb dX10_term_90 rfl hl (by decide) (kTo [(1, .int r_32), (3, .long z_25), (2, .int 0), (0, .ref jM)]) (fun ls hl => ?_)
              refine lv_goto (tgt := 5) hx hb dX10_term_91 (by decide) ?_
              exact ih_k_6 a1_21 xf_22 xd_23 r_32 (by omega) hw_24.2 _ _ hP hD hS ls (lv_sub hl [0, 3] rfl) (by omega)
          · have hns_33 := hw_16.1.resolve_left (fun z9 => absurd (c_18.symm.trans z9) (by decide))
            have hns_33_1 := hns_33.1
            refine lv_iconst (v := 1) hx hb dX10_term_40 (by decide) ?_
            refine lv_goto (tgt := 45) hx hb dX10_term_41 (by decide) ?_
            refine lv_istore_n hx hb dX10_term_45 rfl hl (by decide) (kTo [(2, .int 1), (1, .int xv), (0, .ref jM)]) (fun ls hl => ?_)
            refine lv_aload_n hx hb dX10_term_46 rfl (lv_at hl 2 rfl) ?_
            refine lv_dup hx hb dX10_term_47 rfl ?_
            refine va_get (D := (dC, dI)) (ci := 10) (v := .int (nI (a1_10))) (C := RX10) (T := TX10) (N := 52) hx hb hts (fun _ h => List.mem_cons_of_mem _ (List.mem_append_right _ (List.mem_append_right _ (List.mem_append_left _ h)))) hown hK hP 0 rfl rfl 11 (by decide) (hts (.fieldLink RX10 141 "NotEndedModel" "at" "I") (List.mem_cons_of_mem _ (List.mem_append_left _ (List.mem_of_getElem? (i := 13) rfl)))) (fun _ h9 => h9) rfl dX10_term_48 ?_
            refine lv_iconst (v := 1) hx hb dX10_term_51 (by decide) ?_
            refine lv_iadd hx hb dX10_term_52 ?_
            refine lv_topi (fun y_34 ey_34 => ?_)
            obtain rfl : y_34 = nI (a1_10 + 1) := ey_34.trans (nI_add (a1_10) (1))
            refine va_put (D := (dC, dI)) (ci := 10) (v := .int (nI (a1_10 + 1))) (ty := tyX10 11) (C := RX10) (T := TX10) (N := 52) hx hb hts (fun _ h => List.mem_cons_of_mem _ (List.mem_append_right _ (List.mem_append_right _ (List.mem_append_left _ h)))) tyX10 tyX10_ok nmX10 hown hK hP hD hS 0 rfl rfl 11 (by decide) (hts (.fieldLink RX10 141 "NotEndedModel" "at" "I") (List.mem_cons_of_mem _ (List.mem_append_left _ (List.mem_of_getElem? (i := 13) rfl)))) (fun _ h9 => h9) rfl (tyX10_ok 11 (by decide)) rfl rfl (Nat.le_of_ble_eq_true rfl) dX10_term_53 (fun H locs hP hD hS => ?_)
            obtain ⟨hP, hD⟩ : kPD dC dI A [(jM, kMo vs (.ref lt) (.ref tx) (.int (nI (be))) (.int (nI (en))) (.int (nI (a1_10 + 1))) (.int (-1)) (.int 2) (((v14 : Value) : Value) : Value) (((v15 : Value) : Value) : Value) (.ref q6) (.ref q7) (((v18 : Value) : Value) : Value)), (tx, .inl (cT, nT, .inl gT)), (lt, .inl (cE, 128, .inl gE))] H := ⟨hP, hD⟩
            refine lv_aload_n hx hb dX10_term_56 rfl (lv_at hl 2 rfl) ?_
            obtain ⟨hPc, hDc, hFc⟩ := kCut (wc := [(jM, kMo vs (.ref lt) (.ref tx) (.int (nI (be))) (.int (nI (en))) (.int (nI (a1_10 + 1))) (.int (-1)) (.int 2) (((v14 : Value) : Value) : Value) (((v15 : Value) : Value) : Value) (.ref q6) (.ref q7) (((v18 : Value) : Value) : Value)), (tx, .inl (cT, nT, .inl gT)), (lt, .inl (cE, 128, .inl gE))]) hP hD hS hA [0, 1, 2] rfl (by decide) rfl
            have hKc := hK.sb (tys2 := [(cT, .byte), (cE, .int)]) [0, 1] rfl
            refine va_calli (va_runV (As := []) (rest := []) ⟨hx, hb, hml, hown, hts⟩ (s_atom10_2 l dC dI jM vs ((((v14 : Value) : Value) : Value) : Value) ((((v15 : Value) : Value) : Value) : Value) ((((v18 : Value) : Value) : Value) : Value) lt q6 q7 tx cT nT gT be en (a1_10 + 1) (by omega) (by omega) (by omega) cE gE b6 n6 g6 hn6 hg6 b7 n7 g7 hn7 hg7 H.size) (cwV 0 hts (kG (List.forall_mem_cons.mpr ⟨(List.mem_cons_of_mem _ (List.mem_append_left _ (List.mem_of_getElem? (i := 24) rfl))), (List.forall_mem_cons.mpr ⟨(List.mem_cons_of_mem _ (List.mem_append_left _ (List.mem_of_getElem? (i := 23) rfl))), (List.forall_mem_cons.mpr ⟨(List.mem_cons_of_mem _ (List.mem_append_left _ (List.mem_of_getElem? (i := 22) rfl))), (List.forall_mem_cons.mpr ⟨(List.mem_cons_of_mem _ (List.mem_append_left _ (List.mem_of_getElem? (i := 0) rfl))), (fun _ h => absurd h List.not_mem_nil)⟩)⟩)⟩)⟩) (kGV _ _ _ _) (kFam (List.mem_cons_of_mem _ (List.mem_append_left _ (List.mem_of_getElem? (i := 21) rfl)))) gw_s_atom10_2) rfl rfl rfl ⟨rfl, hd_X10_atom⟩ ⟨(Nat.le_of_ble_eq_true rfl), (Nat.le_of_ble_eq_true rfl)⟩) (kW_V kS2_blind (kS2_give hX hS hFc) (va_recv hKc hPc (ci := 10) (q0 := 0) rfl rfl) hPc hKc hDc) rfl rfl hl.1 rfl (lv_room (Nat.le_of_ble_eq_true rfl)) dX10_term_57 ⟨(Nat.le_of_ble_eq_true rfl), (Nat.le_of_ble_eq_true rfl)⟩) hS (fun q _ h => hFc q h) hFc (fun r_35 u t H1 locs ht hvm hw hB hz1 hk1 hS => ?_)
            obtain ⟨a1_36, xf_37, xd_38⟩ := u
            obtain ⟨hP1, hK1, hD1⟩ := hB
            rw [ht] at hP1
            try dsimp only at hw
            obtain ⟨hP, hD⟩ : kPD dC dI A [(jM, kMo vs (.ref lt) (.ref tx) (.int (nI (be))) (.int (nI (en))) (.int (nI (a1_36))) (.int xf_37) (.int xd_38) ((((v14 : Value) : Value) : Value) : Value) ((((v15 : Value) : Value) : Value) : Value) (.ref q6) (.ref q7) ((((v18 : Value) : Value) : Value) : Value)), (tx, .inl (cT, nT, .inl gT)), (lt, .inl (cE, 128, .inl gE))] H1 := kJoinI hP hD [0, 1, 2] rfl hk1 hFc hP1 hD1 rfl [some 0, some 1, some 2] rfl rfl
            generalize H1 = H at hP hS ⊢
            have hw_39 := hw
            have hw_39_a := hw_39.1
            obtain ⟨z_40, ez_40⟩ : ∃ z : Int64, z = Int32.toInt64 r_35 := ⟨_, rfl⟩
            refine lv_i2l (v := z_40) hx hb dX10_term_60 ez_40.symm ?_
            refine lv_lstore_n hx hb dX10_term_61 rfl hl (by decide) (kTo [(3, .long z_40), (2, .int 1), (1, .int xv), (0, .ref jM)]) (fun ls hl => ?_)
            refine lv_iload_n hx hb dX10_term_62 rfl (lv_at hl 1 rfl) ?_
            refine lv_if_eq (tgt := 73) hx hb dX10_term_63 (by decide) (fun c_41 => absurd c_41 (by decide)) (fun c_41 => ?_)
            refine lv_iload_n hx hb dX10_term_66 rfl (lv_at hl 2 rfl) ?_
            obtain ⟨z_42, ez_42⟩ : ∃ z : Int64, z = Int32.toInt64 xv := ⟨_, rfl⟩
            refine lv_i2l (v := z_42) hx hb dX10_term_67 ez_42.symm ?_
            refine lv_lload_n hx hb dX10_term_68 rfl (lv_at hl 0 rfl) ?_
            refine lv_lmul hx hb dX10_term_69 ?_
            refine lv_topl (fun z_43 ez_43 => ?_)
            refine lv_goto (tgt := 87) hx hb dX10_term_70 (by decide) ?_
            have hPc := hP.sb (ws2 := []) [] rfl
            have hKc := hK.sb (tys2 := []) [] rfl
            refine vp_callSi (va_runS (As := [.long z_43]) (rest := []) ⟨hx, hb, hml, hown, hts⟩ (s_within10 l dC dI z_43) (va_cwS 1 hts (kG (List.forall_mem_cons.mpr ⟨(List.mem_cons_of_mem _ (List.mem_append_left _ (List.mem_of_getElem? (i := 26) rfl))), (List.forall_mem_cons.mpr ⟨(List.mem_cons_of_mem _ (List.mem_append_left _ (List.mem_of_getElem? (i := 25) rfl))), (List.forall_mem_cons.mpr ⟨(List.mem_cons_of_mem _ (List.mem_append_left _ (List.mem_of_getElem? (i := 0) rfl))), (fun _ h => absurd h List.not_mem_nil)⟩)⟩)⟩) (kGS _ _ _) (fun _ h => List.mem_cons_of_mem _ (List.mem_append_right _ (List.mem_append_right _ (List.mem_append_right _ (List.mem_append_right _ (List.mem_append_right _ (List.mem_append_right _ (List.mem_append_right _ (List.mem_append_left _ h))))))))) gw_s_within10) rfl rfl rfl hd_X10_within ⟨(Nat.le_of_ble_eq_true rfl), (Nat.le_of_ble_eq_true rfl)⟩) (kR_S kT_blind kT_give hPc hKc) rfl rfl hl.1 rfl (lv_room (Nat.le_of_ble_eq_true rfl)) dX10_term_87 ⟨(Nat.le_of_ble_eq_true rfl), (Nat.le_of_ble_eq_true rfl)⟩).run (fun r_44 hw => ?_)
            refine lv_istore_n hx hb dX10_term_90 rfl hl (by decide) (kTo [(1, .int r_44), (3, .long z_40), (2, .int 1), (0, .ref jM)]) (fun ls hl => ?_)
            refine lv_goto (tgt := 5) hx hb dX10_term_91 (by decide) ?_
            exact ih_k_6 a1_36 xf_37 xd_38 r_44 (by omega) hw_39.2 _ _ hP hD hS ls (lv_sub hl [0, 3] rfl) (by omega)
        · refine lv_aload_n hx hb dX10_term_22 rfl (lv_at hl 1 rfl) ?_
          obtain ⟨hPc, hDc, hFc⟩ := kCut (wc := [(jM, kMo vs (.ref lt) (.ref tx) (.int (nI (be))) (.int (nI (en))) (.int (nI (a1_10))) (.int (-1)) (.int 2) ((v14 : Value) : Value) ((v15 : Value) : Value) (.ref q6) (.ref q7) ((v18 : Value) : Value)), (tx, .inl (cT, nT, .inl gT))]) hP hD hS hA [0, 1] rfl (by decide) rfl
          have hKc := hK.sb (tys2 := [(cT, .byte)]) [0] rfl
          refine va_calli (va_runV (As := []) (rest := []) ⟨hx, hb, hml, hown, hts⟩ (s_look10 l dC dI jM vs (.int (-1) : Value) (.int 2 : Value) (((v14 : Value) : Value) : Value) (((v15 : Value) : Value) : Value) (((v18 : Value) : Value) : Value) lt q6 q7 tx cT nT gT be en a1_10 (by omega) (by omega) (by omega) H.size) (cwV 0 hts (kG (List.forall_mem_cons.mpr ⟨(List.mem_cons_of_mem _ (List.mem_append_left _ (List.mem_of_getElem? (i := 3) rfl))), (List.forall_mem_cons.mpr ⟨(List.mem_cons_of_mem _ (List.mem_append_left _ (List.mem_of_getElem? (i := 2) rfl))), (List.forall_mem_cons.mpr ⟨(List.mem_cons_of_mem _ (List.mem_append_left _ (List.mem_of_getElem? (i := 1) rfl))), (List.forall_mem_cons.mpr ⟨(List.mem_cons_of_mem _ (List.mem_append_left _ (List.mem_of_getElem? (i := 0) rfl))), (fun _ h => absurd h List.not_mem_nil)⟩)⟩)⟩)⟩) (kGV _ _ _ _) (fun _ h => List.mem_cons_of_mem _ (List.mem_append_right _ (List.mem_append_left _ h))) gw_s_look10) rfl rfl rfl ⟨rfl, hd_X10_look⟩ ⟨(Nat.le_of_ble_eq_true rfl), (Nat.le_of_ble_eq_true rfl)⟩) (kW_V kT_blind kT_give (va_recv hKc hPc (ci := 10) (q0 := 0) rfl rfl) hPc hKc hDc) rfl rfl hl.1 rfl (lv_room (Nat.le_of_ble_eq_true rfl)) dX10_term_23 ⟨(Nat.le_of_ble_eq_true rfl), (Nat.le_of_ble_eq_true rfl)⟩) hS (fun q _ h => hFc q h) hFc (fun r_45 u t H1 locs ht hvm hw hB hz1 hk1 hS => ?_)
          obtain ⟨a1_46, rfl⟩ : ∃ z, z = u := ⟨_, rfl⟩
          obtain ⟨hP1, hK1, hD1⟩ := hB
          rw [ht] at hP1
          try dsimp only at hw
          obtain ⟨hP, hD⟩ : kPD dC dI A [(jM, kMo vs (.ref lt) (.ref tx) (.int (nI (be))) (.int (nI (en))) (.int (nI (a1_46))) (.int (-1)) (.int 2) (((v14 : Value) : Value) : Value) (((v15 : Value) : Value) : Value) (.ref q6) (.ref q7) (((v18 : Value) : Value) : Value)), (tx, .inl (cT, nT, .inl gT)), (lt, .inl (cE, 128, .inl gE))] H1 := kJoinI hP hD [0, 1] rfl hk1 hFc hP1 hD1 rfl [some 0, some 1, none] rfl rfl
          generalize H1 = H at hP hS ⊢
          have hw_47 := hw
          have hw_47_3 := hw_47.2.1
          refine lv_bipush (v := 47) hx hb dX10_term_26 (by decide) ?_
          refine lv_icmp_ne (tgt := 94) hx hb dX10_term_28 (by decide) (fun c_48 => ?_) (fun c_48 => ?_)
          · refine lv_iload_n hx hb dX10_term_94 rfl (lv_at hl 0 rfl) ?_
            have hP9 := hP
            have hD9 := hD
            have hK9 := hK
            rw [hQ]
            exact W.iret (v := xv) hx hb hr (fun t ht hW => ⟨⟨xv, (a1_46, (-1), 2), rfl, ⟨by omega, (fun _ => rfl)⟩,  by rw [ht]; exact hP9, va_K.moved hW.alike hK9, hD9⟩, hS.F ht⟩) hS.2.2 dX10_term_95
          · have hns_49 := hw_47.1.resolve_left (fun z9 => absurd (c_48.symm.trans z9) (by decide))
            have hns_49_1 := hns_49.1
            refine lv_aload_n hx hb dX10_term_31 rfl (lv_at hl 1 rfl) ?_
            obtain ⟨hPc, hDc, hFc⟩ := kCut (wc := [(jM, kMo vs (.ref lt) (.ref tx) (.int (nI (be))) (.int (nI (en))) (.int (nI (a1_46))) (.int (-1)) (.int 2) (((v14 : Value) : Value) : Value) (((v15 : Value) : Value) : Value) (.ref q6) (.ref q7) (((v18 : Value) : Value) : Value)), (tx, .inl (cT, nT, .inl gT))]) hP hD hS hA [0, 1] rfl (by decide) rfl
            have hKc := hK.sb (tys2 := [(cT, .byte)]) [0] rfl
            refine va_calli (va_runV (As := []) (rest := []) ⟨hx, hb, hml, hown, hts⟩ (s_look10 l dC dI jM vs (.int (-1) : Value) (.int 2 : Value) ((((v14 : Value) : Value) : Value) : Value) ((((v15 : Value) : Value) : Value) : Value) ((((v18 : Value) : Value) : Value) : Value) lt q6 q7 tx cT nT gT be en a1_46 (by omega) (by omega) (by omega) H.size) (cwV 0 hts (kG (List.forall_mem_cons.mpr ⟨(List.mem_cons_of_mem _ (List.mem_append_left _ (List.mem_of_getElem? (i := 3) rfl))), (List.forall_mem_cons.mpr ⟨(List.mem_cons_of_mem _ (List.mem_append_left _ (List.mem_of_getElem? (i := 2) rfl))), (List.forall_mem_cons.mpr ⟨(List.mem_cons_of_mem _ (List.mem_append_left _ (List.mem_of_getElem? (i := 1) rfl))), (List.forall_mem_cons.mpr ⟨(List.mem_cons_of_mem _ (List.mem_append_left _ (List.mem_of_getElem? (i := 0) rfl))), (fun _ h => absurd h List.not_mem_nil)⟩)⟩)⟩)⟩) (kGV _ _ _ _) (fun _ h => List.mem_cons_of_mem _ (List.mem_append_right _ (List.mem_append_left _ h))) gw_s_look10) rfl rfl rfl ⟨rfl, hd_X10_look⟩ ⟨(Nat.le_of_ble_eq_true rfl), (Nat.le_of_ble_eq_true rfl)⟩) (kW_V kT_blind kT_give (va_recv hKc hPc (ci := 10) (q0 := 0) rfl rfl) hPc hKc hDc) rfl rfl hl.1 rfl (lv_room (Nat.le_of_ble_eq_true rfl)) dX10_term_32 ⟨(Nat.le_of_ble_eq_true rfl), (Nat.le_of_ble_eq_true rfl)⟩) hS (fun q _ h => hFc q h) hFc (fun r_50 u t H1 locs ht hvm hw hB hz1 hk1 hS => ?_)
            obtain ⟨a1_51, rfl⟩ : ∃ z, z = u := ⟨_, rfl⟩
            obtain ⟨hP1, hK1, hD1⟩ := hB
            rw [ht] at hP1
            try dsimp only at hw
            obtain ⟨hP, hD⟩ : kPD dC dI A [(jM, kMo vs (.ref lt) (.ref tx) (.int (nI (be))) (.int (nI (en))) (.int (nI (a1_51))) (.int (-1)) (.int 2) ((((v14 : Value) : Value) : Value) : Value) ((((v15 : Value) : Value) : Value) : Value) (.ref q6) (.ref q7) ((((v18 : Value) : Value) : Value) : Value)), (tx, .inl (cT, nT, .inl gT)), (lt, .inl (cE, 128, .inl gE))] H1 := kJoinI hP hD [0, 1] rfl hk1 hFc hP1 hD1 rfl [some 0, some 1, none] rfl rfl
            generalize H1 = H at hP hS ⊢
            have hw_52 := hw
            have e_53 : a1_46 = a1_51 := (hw_52.2.2 hns_49).symm
            subst e_53
            refine lv_bipush (v := 42) hx hb dX10_term_35 (by decide) ?_
            refine lv_icmp_ne (tgt := 44) hx hb dX10_term_37 (by decide) (fun c_54 => ?_) (fun c_54 => ?_)
            · refine lv_iconst (v := 0) hx hb dX10_term_44 (by decide) ?_
              refine lv_istore_n hx hb dX10_term_45 rfl hl (by decide) (kTo [(2, .int 0), (1, .int xv), (0, .ref jM)]) (fun ls hl => ?_)
              refine lv_aload_n hx hb dX10_term_46 rfl (lv_at hl 2 rfl) ?_
              refine lv_dup hx hb dX10_term_47 rfl ?_
              refine va_get (D := (dC, dI)) (ci := 10) (v := .int (nI (a1_46))) (C := RX10) (T := TX10) (N := 52) hx hb hts (fun _ h => List.mem_cons_of_mem _ (List.mem_append_right _ (List.mem_append_right _ (List.mem_append_left _ h)))) hown hK hP 0 rfl rfl 11 (by decide) (hts (.fieldLink RX10 141 "NotEndedModel" "at" "I") (List.mem_cons_of_mem _ (List.mem_append_left _ (List.mem_of_getElem? (i := 13) rfl)))) (fun _ h9 => h9) rfl dX10_term_48 ?_
              refine lv_iconst (v := 1) hx hb dX10_term_51 (by decide) ?_
              refine lv_iadd hx hb dX10_term_52 ?_
              refine lv_topi (fun y_55 ey_55 => ?_)
              obtain rfl : y_55 = nI (a1_46 + 1) := ey_55.trans (nI_add (a1_46) (1))
              refine va_put (D := (dC, dI)) (ci := 10) (v := .int (nI (a1_46 + 1))) (ty := tyX10 11) (C := RX10) (T := TX10) (N := 52) hx hb hts (fun _ h => List.mem_cons_of_mem _ (List.mem_append_right _ (List.mem_append_right _ (List.mem_append_left _ h)))) tyX10 tyX10_ok nmX10 hown hK hP hD hS 0 rfl rfl 11 (by decide) (hts (.fieldLink RX10 141 "NotEndedModel" "at" "I") (List.mem_cons_of_mem _ (List.mem_append_left _ (List.mem_of_getElem? (i := 13) rfl)))) (fun _ h9 => h9) rfl (tyX10_ok 11 (by decide)) rfl rfl (Nat.le_of_ble_eq_true rfl) dX10_term_53 (fun H locs hP hD hS => ?_)
              obtain ⟨hP, hD⟩ : kPD dC dI A [(jM, kMo vs (.ref lt) (.ref tx) (.int (nI (be))) (.int (nI (en))) (.int (nI (a1_46 + 1))) (.int (-1)) (.int 2) ((((v14 : Value) : Value) : Value) : Value) ((((v15 : Value) : Value) : Value) : Value) (.ref q6) (.ref q7) ((((v18 : Value) : Value) : Value) : Value)), (tx, .inl (cT, nT, .inl gT)), (lt, .inl (cE, 128, .inl gE))] H := ⟨hP, hD⟩
              refine lv_aload_n hx hb dX10_term_56 rfl (lv_at hl 2 rfl) ?_
              obtain ⟨hPc, hDc, hFc⟩ := kCut (wc := [(jM, kMo vs (.ref lt) (.ref tx) (.int (nI (be))) (.int (nI (en))) (.int (nI (a1_46 + 1))) (.int (-1)) (.int 2) ((((v14 : Value) : Value) : Value) : Value) ((((v15 : Value) : Value) : Value) : Value) (.ref q6) (.ref q7) ((((v18 : Value) : Value) : Value) : Value)), (tx, .inl (cT, nT, .inl gT)), (lt, .inl (cE, 128, .inl gE))]) hP hD hS hA [0, 1, 2] rfl (by decide) rfl
              have hKc := hK.sb (tys2 := [(cT, .byte), (cE, .int)]) [0, 1] rfl
              refine va_calli (va_runV (As := []) (rest := []) ⟨hx, hb, hml, hown, hts⟩ (s_atom10_2 l dC dI jM vs (((((v14 : Value) : Value) : Value) : Value) : Value) (((((v15 : Value) : Value) : Value) : Value) : Value) (((((v18 : Value) : Value) : Value) : Value) : Value) lt q6 q7 tx cT nT gT be en (a1_46 + 1) (by omega) (by omega) (by omega) cE gE b6 n6 g6 hn6 hg6 b7 n7 g7 hn7 hg7 H.size) (cwV 0 hts (kG (List.forall_mem_cons.mpr ⟨(List.mem_cons_of_mem _ (List.mem_append_left _ (List.mem_of_getElem? (i := 24) rfl))), (List.forall_mem_cons.mpr ⟨(List.mem_cons_of_mem _ (List.mem_append_left _ (List.mem_of_getElem? (i := 23) rfl))), (List.forall_mem_cons.mpr ⟨(List.mem_cons_of_mem _ (List.mem_append_left _ (List.mem_of_getElem? (i := 22) rfl))), (List.forall_mem_cons.mpr ⟨(List.mem_cons_of_mem _ (List.mem_append_left _ (List.mem_of_getElem? (i := 0) rfl))), (fun _ h => absurd h List.not_mem_nil)⟩)⟩)⟩)⟩) (kGV _ _ _ _) (kFam (List.mem_cons_of_mem _ (List.mem_append_left _ (List.mem_of_getElem? (i := 21) rfl)))) gw_s_atom10_2) rfl rfl rfl ⟨rfl, hd_X10_atom⟩ ⟨(Nat.le_of_ble_eq_true rfl), (Nat.le_of_ble_eq_true rfl)⟩) (kW_V kS2_blind (kS2_give hX hS hFc) (va_recv hKc hPc (ci := 10) (q0 := 0) rfl rfl) hPc hKc hDc) rfl rfl hl.1 rfl (lv_room (Nat.le_of_ble_eq_true rfl)) dX10_term_57 ⟨(Nat.le_of_ble_eq_true rfl), (Nat.le_of_ble_eq_true rfl)⟩) hS (fun q _ h => hFc q h) hFc (fun r_56 u t H1 locs ht hvm hw hB hz1 hk1 hS => ?_)
              obtain ⟨a1_57, xf_58, xd_59⟩ := u
              obtain ⟨hP1, hK1, hD1⟩ := hB
              rw [ht] at hP1
              try dsimp only at hw
              obtain ⟨hP, hD⟩ : kPD dC dI A [(jM, kMo vs (.ref lt) (.ref tx) (.int (nI (be))) (.int (nI (en))) (.int (nI (a1_57))) (.int xf_58) (.int xd_59) (((((v14 : Value) : Value) : Value) : Value) : Value) (((((v15 : Value) : Value) : Value) : Value) : Value) (.ref q6) (.ref q7) (((((v18 : Value) : Value) : Value) : Value) : Value)), (tx, .inl (cT, nT, .inl gT)), (lt, .inl (cE, 128, .inl gE))] H1 := kJoinI hP hD [0, 1, 2] rfl hk1 hFc hP1 hD1 rfl [some 0, some 1, some 2] rfl rfl
              generalize H1 = H at hP hS ⊢
              have hw_60 := hw
              have hw_60_a := hw_60.1
              obtain ⟨z_61, ez_61⟩ : ∃ z : Int64, z = Int32.toInt64 r_56 := ⟨_, rfl⟩
              refine lv_i2l (v := z_61) hx hb dX10_term_60 ez_61.symm ?_
              refine lv_lstore_n hx hb dX10_term_61 rfl hl (by decide) (kTo [(3, .long z_61), (2, .int 0), (1, .int xv), (0, .ref jM)]) (fun ls hl => ?_)
              refine lv_iload_n hx hb dX10_term_62 rfl (lv_at hl 1 rfl) ?_
              refine lv_if_eq (tgt := 73) hx hb dX10_term_63 (by decide) (fun c_62 => ?_) (fun c_62 => absurd (by decide) c_62)
              refine lv_lload_n hx hb dX10_term_73 rfl (lv_at hl 0 rfl) ?_
              refine lv_lconst (v := 0) hx hb dX10_term_74 (by decide) ?_
              refine W.lcmp hx hb dX10_term_75 ?_
              refine lv_topi (fun x_63 ex_63 => ?_)
              refine lv_if_ne (tgt := 83) hx hb dX10_term_76 (by decide) (fun c_64 => ?_) (fun c_64 => ?_)
              · refine lv_iload_n hx hb dX10_term_83 rfl (lv_at hl 2 rfl) ?_
                obtain ⟨z_65, ez_65⟩ : ∃ z : Int64, z = Int32.toInt64 xv := ⟨_, rfl⟩
                refine lv_i2l (v := z_65) hx hb dX10_term_84 ez_65.symm ?_
                refine lv_lload_n hx hb dX10_term_85 rfl (lv_at hl 0 rfl) ?_
                refine lv_ldiv hx hb dX10_term_86 (kLne ex_63 c_64) ?_
                refine lv_topl (fun z_66 ez_66 => ?_)
                have hPc := hP.sb (ws2 := []) [] rfl
                have hKc := hK.sb (tys2 := []) [] rfl
                refine vp_callSi (va_runS (As := [.long z_66]) (rest := []) ⟨hx, hb, hml, hown, hts⟩ (s_within10 l dC dI z_66) (va_cwS 1 hts (kG (List.forall_mem_cons.mpr ⟨(List.mem_cons_of_mem _ (List.mem_append_left _ (List.mem_of_getElem? (i := 26) rfl))), (List.forall_mem_cons.mpr ⟨(List.mem_cons_of_mem _ (List.mem_append_left _ (List.mem_of_getElem? (i := 25) rfl))), (List.forall_mem_cons.mpr ⟨(List.mem_cons_of_mem _ (List.mem_append_left _ (List.mem_of_getElem? (i := 0) rfl))), (fun _ h => absurd h List.not_mem_nil)⟩)⟩)⟩) (kGS _ _ _) (fun _ h => List.mem_cons_of_mem _ (List.mem_append_right _ (List.mem_append_right _ (List.mem_append_right _ (List.mem_append_right _ (List.mem_append_right _ (List.mem_append_right _ (List.mem_append_right _ (List.mem_append_left _ h))))))))) gw_s_within10) rfl rfl rfl hd_X10_within ⟨(Nat.le_of_ble_eq_true rfl), (Nat.le_of_ble_eq_true rfl)⟩) (kR_S kT_blind kT_give hPc hKc) rfl rfl hl.1 rfl (lv_room (Nat.le_of_ble_eq_true rfl)) dX10_term_87 ⟨(Nat.le_of_ble_eq_true rfl), (Nat.le_of_ble_eq_true rfl)⟩).run (fun r_67 hw => ?_)
                refine lv_istore_n hx hb dX10_term_90 rfl hl (by decide) (kTo [(1, .int r_67), (3, .long z_61), (2, .int 0), (0, .ref jM)]) (fun ls hl => ?_)
                refine lv_goto (tgt := 5) hx hb dX10_term_91 (by decide) ?_
                exact ih_k_6 a1_57 xf_58 xd_59 r_67 (by omega) hw_60.2 _ _ hP hD hS ls (lv_sub hl [0, 3] rfl) (by omega)
              · refine lv_lconst (v := 0) hx hb dX10_term_79 (by decide) ?_
                refine lv_goto (tgt := 87) hx hb dX10_term_80 (by decide) ?_
                have hPc := hP.sb (ws2 := []) [] rfl
                have hKc := hK.sb (tys2 := []) [] rfl
                refine vp_callSi (va_runS (As := [.long 0]) (rest := []) ⟨hx, hb, hml, hown, hts⟩ (s_within10 l dC dI 0) (va_cwS 1 hts (kG (List.forall_mem_cons.mpr ⟨(List.mem_cons_of_mem _ (List.mem_append_left _ (List.mem_of_getElem? (i := 26) rfl))), (List.forall_mem_cons.mpr ⟨(List.mem_cons_of_mem _ (List.mem_append_left _ (List.mem_of_getElem? (i := 25) rfl))), (List.forall_mem_cons.mpr ⟨(List.mem_cons_of_mem _ (List.mem_append_left _ (List.mem_of_getElem? (i := 0) rfl))), (fun _ h => absurd h List.not_mem_nil)⟩)⟩)⟩) (kGS _ _ _) (fun _ h => List.mem_cons_of_mem _ (List.mem_append_right _ (List.mem_append_right _ (List.mem_append_right _ (List.mem_append_right _ (List.mem_append_right _ (List.mem_append_right _ (List.mem_append_right _ (List.mem_append_left _ h))))))))) gw_s_within10) rfl rfl rfl hd_X10_within ⟨(Nat.le_of_ble_eq_true rfl), (Nat.le_of_ble_eq_true rfl)⟩) (kR_S kT_blind kT_give hPc hKc) rfl rfl hl.1 rfl (lv_room (Nat.le_of_ble_eq_true rfl)) dX10_term_87 ⟨(Nat.le_of_ble_eq_true rfl), (Nat.le_of_ble_eq_true rfl)⟩).run (fun r_68 hw => ?_)
                refine lv_istore_n hx hb dX10_term_90 rfl hl (by decide) (kTo [(1, .int r_68), (3, .long z_61), (2, .int 0), (0, .ref jM)]) (fun ls hl => ?_)
                refine lv_goto (tgt := 5) hx hb dX10_term_91 (by decide) ?_
                exact ih_k_6 a1_57 xf_58 xd_59 r_68 (by omega) hw_60.2 _ _ hP hD hS ls (lv_sub hl [0, 3] rfl) (by omega)
            · have hns_69 := hw_52.1.resolve_left (fun z9 => absurd (c_54.symm.trans z9) (by decide))
              have hns_69_1 := hns_69.1
              refine lv_iconst (v := 1) hx hb dX10_term_40 (by decide) ?_
              refine lv_goto (tgt := 45) hx hb dX10_term_41 (by decide) ?_
              refine lv_istore_n hx hb dX10_term_45 rfl hl (by decide) (kTo [(2, .int 1), (1, .int xv), (0, .ref jM)]) (fun ls hl => ?_)
              refine lv_aload_n hx hb dX10_term_46 rfl (lv_at hl 2 rfl) ?_
              refine lv_dup hx hb dX10_term_47 rfl ?_
              refine va_get (D := (dC, dI)) (ci := 10) (v := .int (nI (a1_46))) (C := RX10) (T := TX10) (N := 52) hx hb hts (fun _ h => List.mem_cons_of_mem _ (List.mem_append_right _ (List.mem_append_right _ (List.mem_append_left _ h)))) hown hK hP 0 rfl rfl 11 (by decide) (hts (.fieldLink RX10 141 "NotEndedModel" "at" "I") (List.mem_cons_of_mem _ (List.mem_append_left _ (List.mem_of_getElem? (i := 13) rfl)))) (fun _ h9 => h9) rfl dX10_term_48 ?_
              refine lv_iconst (v := 1) hx hb dX10_term_51 (by decide) ?_
              refine lv_iadd hx hb dX10_term_52 ?_
              refine lv_topi (fun y_70 ey_70 => ?_)
              obtain rfl : y_70 = nI (a1_46 + 1) := ey_70.trans (nI_add (a1_46) (1))
              refine va_put (D := (dC, dI)) (ci := 10) (v := .int (nI (a1_46 + 1))) (ty := tyX10 11) (C := RX10) (T := TX10) (N := 52) hx hb hts (fun _ h => List.mem_cons_of_mem _ (List.mem_append_right _ (List.mem_append_right _ (List.mem_append_left _ h)))) tyX10 tyX10_ok nmX10 hown hK hP hD hS 0 rfl rfl 11 (by decide) (hts (.fieldLink RX10 141 "NotEndedModel" "at" "I") (List.mem_cons_of_mem _ (List.mem_append_left _ (List.mem_of_getElem? (i := 13) rfl)))) (fun _ h9 => h9) rfl (tyX10_ok 11 (by decide)) rfl rfl (Nat.le_of_ble_eq_true rfl) dX10_term_53 (fun H locs hP hD hS => ?_)
              obtain ⟨hP, hD⟩ : kPD dC dI A [(jM, kMo vs (.ref lt) (.ref tx) (.int (nI (be))) (.int (nI (en))) (.int (nI (a1_46 + 1))) (.int (-1)) (.int 2) ((((v14 : Value) : Value) : Value) : Value) ((((v15 : Value) : Value) : Value) : Value) (.ref q6) (.ref q7) ((((v18 : Value) : Value) : Value) : Value)), (tx, .inl (cT, nT, .inl gT)), (lt, .inl (cE, 128, .inl gE))] H := ⟨hP, hD⟩
              refine lv_aload_n hx hb dX10_term_56 rfl (lv_at hl 2 rfl) ?_
              obtain ⟨hPc, hDc, hFc⟩ := kCut (wc := [(jM, kMo vs (.ref lt) (.ref tx) (.int (nI (be))) (.int (nI (en))) (.int (nI (a1_46 + 1))) (.int (-1)) (.int 2) ((((v14 : Value) : Value) : Value) : Value) ((((v15 : Value) : Value) : Value) : Value) (.ref q6) (.ref q7) ((((v18 : Value) : Value) : Value) : Value)), (tx, .inl (cT, nT, .inl gT)), (lt, .inl (cE, 128, .inl gE))]) hP hD hS hA [0, 1, 2] rfl (by decide) rfl
              have hKc := hK.sb (tys2 := [(cT, .byte), (cE, .int)]) [0, 1] rfl
              refine va_calli (va_runV (As := []) (rest := []) ⟨hx, hb, hml, hown, hts⟩ (s_atom10_2 l dC dI jM vs (((((v14 : Value) : Value) : Value) : Value) : Value) (((((v15 : Value) : Value) : Value) : Value) : Value) (((((v18 : Value) : Value) : Value) : Value) : Value) lt q6 q7 tx cT nT gT be en (a1_46 + 1) (by omega) (by omega) (by omega) cE gE b6 n6 g6 hn6 hg6 b7 n7 g7 hn7 hg7 H.size) (cwV 0 hts (kG (List.forall_mem_cons.mpr ⟨(List.mem_cons_of_mem _ (List.mem_append_left _ (List.mem_of_getElem? (i := 24) rfl))), (List.forall_mem_cons.mpr ⟨(List.mem_cons_of_mem _ (List.mem_append_left _ (List.mem_of_getElem? (i := 23) rfl))), (List.forall_mem_cons.mpr ⟨(List.mem_cons_of_mem _ (List.mem_append_left _ (List.mem_of_getElem? (i := 22) rfl))), (List.forall_mem_cons.mpr ⟨(List.mem_cons_of_mem _ (List.mem_append_left _ (List.mem_of_getElem? (i := 0) rfl))), (fun _ h => absurd h List.not_mem_nil)⟩)⟩)⟩)⟩) (kGV _ _ _ _) (kFam (List.mem_cons_of_mem _ (List.mem_append_left _ (List.mem_of_getElem? (i := 21) rfl)))) gw_s_atom10_2) rfl rfl rfl ⟨rfl, hd_X10_atom⟩ ⟨(Nat.le_of_ble_eq_true rfl), (Nat.le_of_ble_eq_true rfl)⟩) (kW_V kS2_blind (kS2_give hX hS hFc) (va_recv hKc hPc (ci := 10) (q0 := 0) rfl rfl) hPc hKc hDc) rfl rfl hl.1 rfl (lv_room (Nat.le_of_ble_eq_true rfl)) dX10_term_57 ⟨(Nat.le_of_ble_eq_true rfl), (Nat.le_of_ble_eq_true rfl)⟩) hS (fun q _ h => hFc q h) hFc (fun r_71 u t H1 locs ht hvm hw hB hz1 hk1 hS => ?_)
              obtain ⟨a1_72, xf_73, xd_74⟩ := u
              obtain ⟨hP1, hK1, hD1⟩ := hB
              rw [ht] at hP1
              try dsimp only at hw
              obtain ⟨hP, hD⟩ : kPD dC dI A [(jM, kMo vs (.ref lt) (.ref tx) (.int (nI (be))) (.int (nI (en))) (.int (nI (a1_72))) (.int xf_73) (.int xd_74) (((((v14 : Value) : Value) : Value) : Value) : Value) (((((v15 : Value) : Value) : Value) : Value) : Value) (.ref q6) (.ref q7) (((((v18 : Value) : Value) : Value) : Value) : Value)), (tx, .inl (cT, nT, .inl gT)), (lt, .inl (cE, 128, .inl gE))] H1 := kJoinI hP hD [0, 1, 2] rfl hk1 hFc hP1 hD1 rfl [some 0, some 1, some 2] rfl rfl
              generalize H1 = H at hP hS ⊢
              have hw_75 := hw
              have hw_75_a := hw_75.1
              obtain ⟨z_76, ez_76⟩ : ∃ z : Int64, z = Int32.toInt64 r_71 := ⟨_, rfl⟩
              refine lv_i2l (v := z_76) hx hb dX10_term_60 ez_76.symm ?_
              refine lv_lstore_n hx hb dX10_term_61 rfl hl (by decide) (kTo [(3, .long z_76), (2, .int 1), (1, .int xv), (0, .ref jM)]) (fun ls hl => ?_)
              refine lv_iload_n hx hb dX10_term_62 rfl (lv_at hl 1 rfl) ?_
              refine lv_if_eq (tgt := 73) hx hb dX10_term_63 (by decide) (fun c_77 => absurd c_77 (by decide)) (fun c_77 => ?_)
              refine lv_iload_n hx hb dX10_term_66 rfl (lv_at hl 2 rfl) ?_
              obtain ⟨z_78, ez_78⟩ : ∃ z : Int64, z = Int32.toInt64 xv := ⟨_, rfl⟩
              refine lv_i2l (v := z_78) hx hb dX10_term_67 ez_78.symm ?_
              refine lv_lload_n hx hb dX10_term_68 rfl (lv_at hl 0 rfl) ?_
              refine lv_lmul hx hb dX10_term_69 ?_
              refine lv_topl (fun z_79 ez_79 => ?_)
              refine lv_goto (tgt := 87) hx hb dX10_term_70 (by decide) ?_
              have hPc := hP.sb (ws2 := []) [] rfl
              have hKc := hK.sb (tys2 := []) [] rfl
              refine vp_callSi (va_runS (As := [.long z_79]) (rest := []) ⟨hx, hb, hml, hown, hts⟩ (s_within10 l dC dI z_79) (va_cwS 1 hts (kG (List.forall_mem_cons.mpr ⟨(List.mem_cons_of_mem _ (List.mem_append_left _ (List.mem_of_getElem? (i := 26) rfl))), (List.forall_mem_cons.mpr ⟨(List.mem_cons_of_mem _ (List.mem_append_left _ (List.mem_of_getElem? (i := 25) rfl))), (List.forall_mem_cons.mpr ⟨(List.mem_cons_of_mem _ (List.mem_append_left _ (List.mem_of_getElem? (i := 0) rfl))), (fun _ h => absurd h List.not_mem_nil)⟩)⟩)⟩) (kGS _ _ _) (fun _ h => List.mem_cons_of_mem _ (List.mem_append_right _ (List.mem_append_right _ (List.mem_append_right _ (List.mem_append_right _ (List.mem_append_right _ (List.mem_append_right _ (List.mem_append_right _ (List.mem_append_left _ h))))))))) gw_s_within10) rfl rfl rfl hd_X10_within ⟨(Nat.le_of_ble_eq_true rfl), (Nat.le_of_ble_eq_true rfl)⟩) (kR_S kT_blind kT_give hPc hKc) rfl rfl hl.1 rfl (lv_room (Nat.le_of_ble_eq_true rfl)) dX10_term_87 ⟨(Nat.le_of_ble_eq_true rfl), (Nat.le_of_ble_eq_true rfl)⟩).run (fun r_80 hw => ?_)
              refine lv_istore_n hx hb dX10_term_90 rfl hl (by decide) (kTo [(1, .int r_80), (3, .long z_76), (2, .int 1), (0, .ref jM)]) (fun ls hl => ?_)
              refine lv_goto (tgt := 5) hx hb dX10_term_91 (by decide) ?_
              exact ih_k_6 a1_72 xf_73 xd_74 r_80 (by omega) hw_75.2 _ _ hP hD hS ls (lv_sub hl [0, 3] rfl) (by omega)
  exact lp_k_6 (en - a1_2 + 1) a1_2 xf_3 xd_4 r_1 (by omega) hw_5.2 _ _ hP hD hS ls (lv_sub hl [0, 1] rfl) (by omega)

def w_s_sum10_2 : List Cond := .code yX10_sum cX10_sum 5 (some .int) :: wf_md
theorem gw_s_sum10_2 : (w_s_sum10_2).all goodWord = true := kFamG rfl gf_md
set_option maxHeartbeats 4000000 in
set_option maxRecDepth 100000 in
theorem s_sum10_2 (l : Launch) (dC : Nat → ClassId) (dI : Nat → Nat → Nat) (jM : Nat) (vs : Nat → Value) (v14 : Value) (v15 : Value) (v18 : Value) (lt : Nat) (q6 : Nat) (q7 : Nat) (tx : Nat) (cT : ClassId) (nT : Nat) (gT : Nat → Int32) (be : Nat) (en : Nat) (a : Nat) (hbe : be + en ≤ nT) (hnT : nT ≤ 1680) (ha : a ≤ en) (cE : ClassId) (gE : Nat → Int32) (b6 : Nat) (n6 : Nat) (g6 : Nat → Int32) (hn6 : n6 ≤ 8) (hg6 : ∀ k : Nat, ∃ v : Nat, v < 128 ∧ g6 k = nI v) (b7 : Nat) (n7 : Nat) (g7 : Nat → Int32) (hn7 : n7 ≤ 8) (hg7 : ∀ k : Nat, ∃ v : Nat, v < 128 ∧ g7 k = nI v) (sz : Nat) : Met l yX10_sum w_s_sum10_2 ({ frames := 37, cells := 0, slots := 0, locals := 2220 }) (kW dC dI [.ref jM] [(jM, kMo vs (.ref lt) (.ref tx) (.int (nI (be))) (.int (nI (en))) (.int (nI (a))) (.int (-1)) (.int 2) v14 v15 (.ref q6) (.ref q7) v18), (tx, .inl (cT, nT, .inl gT)), (lt, .inl (cE, 128, .inl gE))] [(cT, .byte), (cE, .int)] (kS2 q6 b6 n6 g6 q7 b7 n7 g7 (va_A [(jM, kMo vs (.ref lt) (.ref tx) (.int (nI (be))) (.int (nI (en))) (.int (nI (a))) (.int (-1)) (.int 2) v14 v15 (.ref q6) (.ref q7) v18), (tx, .inl (cT, nT, .inl gT)), (lt, .inl (cE, 128, .inl gE))] sz)) sz) (va_Qi (fun (r : Int32) (u : Nat × Int32 × Int32) => match u with | (a1, xf, xd) => ((a ≤ a1 ∧ a1 ≤ en) ∧ (xf = -1 → xd = 2))) (fun (u : Nat × Int32 × Int32) => match u with | (a1, xf, xd) => fun t : State => kB dC dI [(jM, kMo vs (.ref lt) (.ref tx) (.int (nI (be))) (.int (nI (en))) (.int (nI (a1))) (.int xf) (.int xd) v14 v15 (.ref q6) (.ref q7) v18), (tx, .inl (cT, nT, .inl gT)), (lt, .inl (cE, 128, .inl gE))] [(cT, .byte), (cE, .int)] (va_A [(jM, kMo vs (.ref lt) (.ref tx) (.int (nI (be))) (.int (nI (en))) (.int (nI (a))) (.int (-1)) (.int 2) v14 v15 (.ref q6) (.ref q7) v18), (tx, .inl (cT, nT, .inl gT)), (lt, .inl (cE, 128, .inl gE))] sz) t) (va_A [(jM, kMo vs (.ref lt) (.ref tx) (.int (nI (be))) (.int (nI (en))) (.int (nI (a))) (.int (-1)) (.int 2) v14 v15 (.ref q6) (.ref q7) v18), (tx, .inl (cT, nT, .inl gT)), (lt, .inl (cE, 128, .inl gE))] sz)) 0 0 (va_A [(jM, kMo vs (.ref lt) (.ref tx) (.int (nI (be))) (.int (nI (en))) (.int (nI (a))) (.int (-1)) (.int 2) v14 v15 (.ref q6) (.ref q7) v18), (tx, .inl (cT, nT, .inl gT)), (lt, .inl (cE, 128, .inl gE))] sz) := by
  refine Met.ofW (cc := cX10_sum) (maxL := 5) (ret := (some .int)) (by decide) rfl ?_
  intro p e s m args below meth c s₁ B hml hv
  obtain ⟨rfl, hsz, hP, hK, hD0, hX⟩ := hv
  have hx := B.exec
  have hb := B.bytes
  have hr := B.returns
  have hts := atoms_spec (ws := w_s_sum10_2) B.pre
  have hown : s.vm.findClass RX10 = some m.cls := findClass_of_methodNamed B.named
  have hlocks := B.notSynchronized
  subst hsz
  have hD := hD0.self (sz := s.heap.size)
  generalize hAe : va_A [(jM, kMo vs (.ref lt) (.ref tx) (.int (nI (be))) (.int (nI (en))) (.int (nI (a))) (.int (-1)) (.int 2) v14 v15 (.ref q6) (.ref q7) v18), (tx, .inl (cT, nT, .inl gT)), (lt, .inl (cE, 128, .inl gE))] s.heap.size = A at hD hX ⊢
  have hA : ∀ q : Nat, s.heap.size ≤ q → A q := fun q h => by rw [← hAe]; exact Or.inr h
  have hS : va_S A s.heap s.heap [] := va_S.rf
  have hP : va_P (dC, dI) vwCl [(jM, kMo vs (.ref lt) (.ref tx) (.int (nI (be))) (.int (nI (en))) (.int (nI (a))) (.int (-1)) (.int 2) v14 v15 (.ref q6) (.ref q7) v18), (tx, .inl (cT, nT, .inl gT)), (lt, .inl (cE, 128, .inl gE))] s.heap := hP
  have hl := lv_entry ([.ref jM]) (n := 5) (Nat.le_of_ble_eq_true rfl)
  rw [lg_entry_eq]
  generalize (lg_sl ([.ref jM]) ++ List.replicate (5 - (lg_sl ([.ref jM])).length) Slot.unset).toArray = ls at hl ⊢
  have hl : lv_has ls 5 [(0, .ref jM)] := hl
  refine kQ (fun Q hQ => ?_)
  refine lv_aload_n hx hb dX10_sum_0 rfl (lv_at hl 0 rfl) ?_
  obtain ⟨hPc, hDc, hFc⟩ := kCut (wc := [(jM, kMo vs (.ref lt) (.ref tx) (.int (nI (be))) (.int (nI (en))) (.int (nI (a))) (.int (-1)) (.int 2) v14 v15 (.ref q6) (.ref q7) v18), (tx, .inl (cT, nT, .inl gT)), (lt, .inl (cE, 128, .inl gE))]) hP hD hS hA [0, 1, 2] rfl (by decide) rfl
  have hKc := hK.sb (tys2 := [(cT, .byte), (cE, .int)]) [0, 1] rfl
  refine va_calli (va_runV (As := []) (rest := []) ⟨hx, hb, hml, hown, hts⟩ (s_term10_2 l dC dI jM vs (v14 : Value) (v15 : Value) (v18 : Value) lt q6 q7 tx cT nT gT be en a (by omega) (by omega) (by omega) cE gE b6 n6 g6 hn6 hg6 b7 n7 g7 hn7 hg7 s.heap.size) (cwV 0 hts (kG (List.forall_mem_cons.mpr ⟨(List.mem_cons_of_mem _ (List.mem_append_left _ (List.mem_of_getElem? (i := 30) rfl))), (List.forall_mem_cons.mpr ⟨(List.mem_cons_of_mem _ (List.mem_append_left _ (List.mem_of_getElem? (i := 29) rfl))), (List.forall_mem_cons.mpr ⟨(List.mem_cons_of_mem _ (List.mem_append_left _ (List.mem_of_getElem? (i := 28) rfl))), (List.forall_mem_cons.mpr ⟨(List.mem_cons_of_mem _ (List.mem_append_left _ (List.mem_of_getElem? (i := 0) rfl))), (fun _ h => absurd h List.not_mem_nil)⟩)⟩)⟩)⟩) (kGV _ _ _ _) (kFam (List.mem_cons_of_mem _ (List.mem_append_left _ (List.mem_of_getElem? (i := 27) rfl)))) gw_s_term10_2) rfl rfl rfl ⟨rfl, hd_X10_term⟩ ⟨(Nat.le_of_ble_eq_true rfl), (Nat.le_of_ble_eq_true rfl)⟩) (kW_V kS2_blind (kS2_give hX hS hFc) (va_recv hKc hPc (ci := 10) (q0 := 0) rfl rfl) hPc hKc hDc) rfl rfl hl.1 rfl (lv_room (Nat.le_of_ble_eq_true rfl)) dX10_sum_1 ⟨(Nat.le_of_ble_eq_true rfl), (Nat.le_of_ble_eq_true rfl)⟩) hS (fun q _ h => hFc q h) hFc (fun r_1 u t H1 locs ht hvm hw hB hz1 hk1 hS => ?_)
  obtain ⟨a1_2, xf_3, xd_4⟩ := u
  obtain ⟨hP1, hK1, hD1⟩ := hB
  rw [ht] at hP1
  try dsimp only at hw
  obtain ⟨hP, hD⟩ : kPD dC dI A [(jM, kMo vs (.ref lt) (.ref tx) (.int (nI (be))) (.int (nI (en))) (.int (nI (a1_2))) (.int xf_3) (.int xd_4) (v14 : Value) (v15 : Value) (.ref q6) (.ref q7) (v18 : Value)), (tx, .inl (cT, nT, .inl gT)), (lt, .inl (cE, 128, .inl gE))] H1 := kJoinI hP hD [0, 1, 2] rfl hk1 hFc hP1 hD1 rfl [some 0, some 1, some 2] rfl rfl
  generalize H1 = H at hP hS ⊢
  have hw_5 := hw
  have hw_5_a := hw_5.1
  refine lv_istore_n hx hb dX10_sum_4 rfl hl (by decide) (kTo [(1, .int r_1), (0, .ref jM)]) (fun ls hl => ?_)
  have lp_k_6 : ∀ (n9 : Nat) (i : Nat) (lf : Int32) (ld : Int32) (xv : Int32) (ivk_6_0 : (a ≤ i ∧ i ≤ en)) (ivk_6_1 : (lf = -1 → ld = 2)) (H : Heap) (locs : List Loc) (_ : va_P (dC, dI) vwCl [(jM, kMo vs (.ref lt) (.ref tx) (.int (nI (be))) (.int (nI (en))) (.int (nI (i))) (.int lf) (.int ld) (v14 : Value) (v15 : Value) (.ref q6) (.ref q7) (v18 : Value)), (tx, .inl (cT, nT, .inl gT)), (lt, .inl (cE, 128, .inl gE))] H) (_ : va_D A [(jM, kMo vs (.ref lt) (.ref tx) (.int (nI (be))) (.int (nI (en))) (.int (nI (i))) (.int lf) (.int ld) (v14 : Value) (v15 : Value) (.ref q6) (.ref q7) (v18 : Value)), (tx, .inl (cT, nT, .inl gT)), (lt, .inl (cE, 128, .inl gE))]) (_ : va_S A s.heap H locs) (ls : Array Slot) (_ : lv_has ls 5 [(1, .int xv), (0, .ref jM)]) (_ : en - i < n9), W p l e (headSpec w_s_sum10_2 ({ frames := 37, cells := 0, slots := 0, locals := 2220 })).room s m (#[.ref jM] : Array Value) below meth c H locs 0 0 Q (F0 m 5 ls []) := by
    intro n9
    induction n9 with
    | zero => intro i lf ld xv ivk_6_0 ivk_6_1 H locs hP hD hS ls hl hm9; exact absurd hm9 (Nat.not_lt_zero _)
    | succ n9 ih_k_6 =>
      intro i lf ld xv ivk_6_0 ivk_6_1 H locs hP hD hS ls hl hm9
      refine lv_aload_n hx hb dX10_sum_5 rfl (lv_at hl 1 rfl) ?_
      refine va_get (D := (dC, dI)) (ci := 10) (v := .int lf) (C := RX10) (T := TX10) (N := 52) hx hb hts (fun _ h => List.mem_cons_of_mem _ (List.mem_append_right _ (List.mem_append_right _ (List.mem_append_left _ h)))) hown hK hP 0 rfl rfl 12 (by decide) (hts (.fieldLink RX10 150 "NotEndedModel" "fault" "I") (List.mem_cons_of_mem _ (List.mem_append_left _ (List.mem_of_getElem? (i := 10) rfl)))) (fun _ h9 => h9) rfl dX10_sum_6 ?_
      refine lv_iconst (v := (-1)) hx hb dX10_sum_9 (by decide) ?_
      refine lv_icmp_ne (tgt := 84) hx hb dX10_sum_10 (by decide) (fun c_7 => ?_) (fun c_7 => ?_)
      · refine lv_iload_n hx hb dX10_sum_84 rfl (lv_at hl 0 rfl) ?_
        have hP9 := hP
        have hD9 := hD
        have hK9 := hK
        rw [hQ]
        exact W.iret (v := xv) hx hb hr (fun t ht hW => ⟨⟨xv, (i, lf, ld), rfl, ⟨by omega, ivk_6_1⟩,  by rw [ht]; exact hP9, va_K.moved hW.alike hK9, hD9⟩, hS.F ht⟩) hS.2.2 dX10_sum_85
      · have e_8 := ivk_6_1 c_7
        subst e_8
        subst c_7
        refine lv_aload_n hx hb dX10_sum_13 rfl (lv_at hl 1 rfl) ?_
        obtain ⟨hPc, hDc, hFc⟩ := kCut (wc := [(jM, kMo vs (.ref lt) (.ref tx) (.int (nI (be))) (.int (nI (en))) (.int (nI (i))) (.int (-1)) (.int 2) (v14 : Value) (v15 : Value) (.ref q6) (.ref q7) (v18 : Value)), (tx, .inl (cT, nT, .inl gT))]) hP hD hS hA [0, 1] rfl (by decide) rfl
        have hKc := hK.sb (tys2 := [(cT, .byte)]) [0] rfl
        refine va_calli (va_runV (As := []) (rest := []) ⟨hx, hb, hml, hown, hts⟩ (s_look10 l dC dI jM vs (.int (-1) : Value) (.int 2 : Value) ((v14 : Value) : Value) ((v15 : Value) : Value) ((v18 : Value) : Value) lt q6 q7 tx cT nT gT be en i (by omega) (by omega) (by omega) H.size) (cwV 0 hts (kG (List.forall_mem_cons.mpr ⟨(List.mem_cons_of_mem _ (List.mem_append_left _ (List.mem_of_getElem? (i := 3) rfl))), (List.forall_mem_cons.mpr ⟨(List.mem_cons_of_mem _ (List.mem_append_left _ (List.mem_of_getElem? (i := 2) rfl))), (List.forall_mem_cons.mpr ⟨(List.mem_cons_of_mem _ (List.mem_append_left _ (List.mem_of_getElem? (i := 1) rfl))), (List.forall_mem_cons.mpr ⟨(List.mem_cons_of_mem _ (List.mem_append_left _ (List.mem_of_getElem? (i := 0) rfl))), (fun _ h => absurd h List.not_mem_nil)⟩)⟩)⟩)⟩) (kGV _ _ _ _) (fun _ h => List.mem_cons_of_mem _ (List.mem_append_right _ (List.mem_append_left _ h))) gw_s_look10) rfl rfl rfl ⟨rfl, hd_X10_look⟩ ⟨(Nat.le_of_ble_eq_true rfl), (Nat.le_of_ble_eq_true rfl)⟩) (kW_V kT_blind kT_give (va_recv hKc hPc (ci := 10) (q0 := 0) rfl rfl) hPc hKc hDc) rfl rfl hl.1 rfl (lv_room (Nat.le_of_ble_eq_true rfl)) dX10_sum_14 ⟨(Nat.le_of_ble_eq_true rfl), (Nat.le_of_ble_eq_true rfl)⟩) hS (fun q _ h => hFc q h) hFc (fun r_9 u t H1 locs ht hvm hw hB hz1 hk1 hS => ?_)
        obtain ⟨a1_10, rfl⟩ : ∃ z, z = u := ⟨_, rfl⟩
        obtain ⟨hP1, hK1, hD1⟩ := hB
        rw [ht] at hP1
        try dsimp only at hw
        obtain ⟨hP, hD⟩ : kPD dC dI A [(jM, kMo vs (.ref lt) (.ref tx) (.int (nI (be))) (.int (nI (en))) (.int (nI (a1_10))) (.int (-1)) (.int 2) ((v14 : Value) : Value) ((v15 : Value) : Value) (.ref q6) (.ref q7) ((v18 : Value) : Value)), (tx, .inl (cT, nT, .inl gT)), (lt, .inl (cE, 128, .inl gE))] H1 := kJoinI hP hD [0, 1] rfl hk1 hFc hP1 hD1 rfl [some 0, some 1, none] rfl rfl
        generalize H1 = H at hP hS ⊢
        have hw_11 := hw
        have hw_11_3 := hw_11.2.1
        refine lv_bipush (v := 43) hx hb dX10_sum_17 (by decide) ?_
        refine lv_icmp_eq (tgt := 31) hx hb dX10_sum_19 (by decide) (fun c_12 => ?_) (fun c_12 => ?_)
        · have hns_13 := hw_11.1.resolve_left (fun z9 => absurd (c_12.symm.trans z9) (by decide))
          have hns_13_1 := hns_13.1
          refine lv_aload_n hx hb dX10_sum_31 rfl (lv_at hl 1 rfl) ?_
          obtain ⟨hPc, hDc, hFc⟩ := kCut (wc := [(jM, kMo vs (.ref lt) (.ref tx) (.int (nI (be))) (.int (nI (en))) (.int (nI (a1_10))) (.int (-1)) (.int 2) ((v14 : Value) : Value) ((v15 : Value) : Value) (.ref q6) (.ref q7) ((v18 : Value) : Value)), (tx, .inl (cT, nT, .inl gT))]) hP hD hS hA [0, 1] rfl (by decide) rfl
          have hKc := hK.sb (tys2 := [(cT, .byte)]) [0] rfl
          refine va_calli (va_runV (As := []) (rest := []) ⟨hx, hb, hml, hown, hts⟩ (s_look10 l dC dI jM vs (.int (-1) : Value) (.int 2 : Value) (((v14 : Value) : Value) : Value) (((v15 : Value) : Value) : Value) (((v18 : Value) : Value) : Value) lt q6 q7 tx cT nT gT be en a1_10 (by omega) (by omega) (by omega) H.size) (cwV 0 hts (kG (List.forall_mem_cons.mpr ⟨(List.mem_cons_of_mem _ (List.mem_append_left _ (List.mem_of_getElem? (i := 3) rfl))), (List.forall_mem_cons.mpr ⟨(List.mem_cons_of_mem _ (List.mem_append_left _ (List.mem_of_getElem? (i := 2) rfl))), (List.forall_mem_cons.mpr ⟨(List.mem_cons_of_mem _ (List.mem_append_left _ (List.mem_of_getElem? (i := 1) rfl))), (List.forall_mem_cons.mpr ⟨(List.mem_cons_of_mem _ (List.mem_append_left _ (List.mem_of_getElem? (i := 0) rfl))), (fun _ h => absurd h List.not_mem_nil)⟩)⟩)⟩)⟩) (kGV _ _ _ _) (fun _ h => List.mem_cons_of_mem _ (List.mem_append_right _ (List.mem_append_left _ h))) gw_s_look10) rfl rfl rfl ⟨rfl, hd_X10_look⟩ ⟨(Nat.le_of_ble_eq_true rfl), (Nat.le_of_ble_eq_true rfl)⟩) (kW_V kT_blind kT_give (va_recv hKc hPc (ci := 10) (q0 := 0) rfl rfl) hPc hKc hDc) rfl rfl hl.1 rfl (lv_room (Nat.le_of_ble_eq_true rfl)) dX10_sum_32 ⟨(Nat.le_of_ble_eq_true rfl), (Nat.le_of_ble_eq_true rfl)⟩) hS (fun q _ h => hFc q h) hFc (fun r_14 u t H1 locs ht hvm hw hB hz1 hk1 hS => ?_)
          obtain ⟨a1_15, rfl⟩ : ∃ z, z = u := ⟨_, rfl⟩
          obtain ⟨hP1, hK1, hD1⟩ := hB
          rw [ht] at hP1
          try dsimp only at hw
          obtain ⟨hP, hD⟩ : kPD dC dI A [(jM, kMo vs (.ref lt) (.ref tx) (.int (nI (be))) (.int (nI (en))) (.int (nI (a1_15))) (.int (-1)) (.int 2) (((v14 : Value) : Value) : Value) (((v15 : Value) : Value) : Value) (.ref q6) (.ref q7) (((v18 : Value) : Value) : Value)), (tx, .inl (cT, nT, .inl gT)), (lt, .inl (cE, 128, .inl gE))] H1 := kJoinI hP hD [0, 1] rfl hk1 hFc hP1 hD1 rfl [some 0, some 1, none] rfl rfl
          generalize H1 = H at hP hS ⊢
          have hw_16 := hw
          have e_17 : a1_10 = a1_15 := (hw_16.2.2 hns_13).symm
          subst e_17
          refine lv_bipush (v := 43) hx hb dX10_sum_35 (by decide) ?_
          refine lv_icmp_ne (tgt := 44) hx hb dX10_sum_37 (by decide) (fun c_18 => ?_) (fun c_18 => ?_)
          · refine lv_iconst (v := 0) hx hb dX10_sum_44 (by decide) ?_
            refine lv_istore_n hx hb dX10_sum_45 rfl hl (by decide) (kTo [(2, .int 0), (1, .int xv), (0, .ref jM)]) (fun ls hl => ?_)
            refine lv_aload_n hx hb dX10_sum_46 rfl (lv_at hl 2 rfl) ?_
            refine lv_dup hx hb dX10_sum_47 rfl ?_
            refine va_get (D := (dC, dI)) (ci := 10) (v := .int (nI (a1_10))) (C := RX10) (T := TX10) (N := 52) hx hb hts (fun _ h => List.mem_cons_of_mem _ (List.mem_append_right _ (List.mem_append_right _ (List.mem_append_left _ h)))) hown hK hP 0 rfl rfl 11 (by decide) (hts (.fieldLink RX10 141 "NotEndedModel" "at" "I") (List.mem_cons_of_mem _ (List.mem_append_left _ (List.mem_of_getElem? (i := 13) rfl)))) (fun _ h9 => h9) rfl dX10_sum_48 ?_
            refine lv_iconst (v := 1) hx hb dX10_sum_51 (by decide) ?_
            refine lv_iadd hx hb dX10_sum_52 ?_
            refine lv_topi (fun y_19 ey_19 => ?_)
            obtain rfl : y_19 = nI (a1_10 + 1) := ey_19.trans (nI_add (a1_10) (1))
            refine va_put (D := (dC, dI)) (ci := 10) (v := .int (nI (a1_10 + 1))) (ty := tyX10 11) (C := RX10) (T := TX10) (N := 52) hx hb hts (fun _ h => List.mem_cons_of_mem _ (List.mem_append_right _ (List.mem_append_right _ (List.mem_append_left _ h)))) tyX10 tyX10_ok nmX10 hown hK hP hD hS 0 rfl rfl 11 (by decide) (hts (.fieldLink RX10 141 "NotEndedModel" "at" "I") (List.mem_cons_of_mem _ (List.mem_append_left _ (List.mem_of_getElem? (i := 13) rfl)))) (fun _ h9 => h9) rfl (tyX10_ok 11 (by decide)) rfl rfl (Nat.le_of_ble_eq_true rfl) dX10_sum_53 (fun H locs hP hD hS => ?_)
            obtain ⟨hP, hD⟩ : kPD dC dI A [(jM, kMo vs (.ref lt) (.ref tx) (.int (nI (be))) (.int (nI (en))) (.int (nI (a1_10 + 1))) (.int (-1)) (.int 2) (((v14 : Value) : Value) : Value) (((v15 : Value) : Value) : Value) (.ref q6) (.ref q7) (((v18 : Value) : Value) : Value)), (tx, .inl (cT, nT, .inl gT)), (lt, .inl (cE, 128, .inl gE))] H := ⟨hP, hD⟩
            refine lv_aload_n hx hb dX10_sum_56 rfl (lv_at hl 2 rfl) ?_
            obtain ⟨hPc, hDc, hFc⟩ := kCut (wc := [(jM, kMo vs (.ref lt) (.ref tx) (.int (nI (be))) (.int (nI (en))) (.int (nI (a1_10 + 1))) (.int (-1)) (.int 2) (((v14 : Value) : Value) : Value) (((v15 : Value) : Value) : Value) (.ref q6) (.ref q7) (((v18 : Value) : Value) : Value)), (tx, .inl (cT, nT, .inl gT)), (lt, .inl (cE, 128, .inl gE))]) hP hD hS hA [0, 1, 2] rfl (by decide) rfl
            have hKc := hK.sb (tys2 := [(cT, .byte), (cE, .int)]) [0, 1] rfl
            refine va_calli (va_runV (As := []) (rest := []) ⟨hx, hb, hml, hown, hts⟩ (s_term10_2 l dC dI jM vs ((((v14 : Value) : Value) : Value) : Value) ((((v15 : Value) : Value) : Value) : Value) ((((v18 : Value) : Value) : Value) : Value) lt q6 q7 tx cT nT gT be en (a1_10 + 1) (by omega) (by omega) (by omega) cE gE b6 n6 g6 hn6 hg6 b7 n7 g7 hn7 hg7 H.size) (cwV 0 hts (kG (List.forall_mem_cons.mpr ⟨(List.mem_cons_of_mem _ (List.mem_append_left _ (List.mem_of_getElem? (i := 30) rfl))), (List.forall_mem_cons.mpr ⟨(List.mem_cons_of_mem _ (List.mem_append_left _ (List.mem_of_getElem? (i := 29) rfl))), (List.forall_mem_cons.mpr ⟨(List.mem_cons_of_mem _ (List.mem_append_left _ (List.mem_of_getElem? (i := 28) rfl))), (List.forall_mem_cons.mpr ⟨(List.mem_cons_of_mem _ (List.mem_append_left _ (List.mem_of_getElem? (i := 0) rfl))), (fun _ h => absurd h List.not_mem_nil)⟩)⟩)⟩)⟩) (kGV _ _ _ _) (kFam (List.mem_cons_of_mem _ (List.mem_append_left _ (List.mem_of_getElem? (i := 27) rfl)))) gw_s_term10_2) rfl rfl rfl ⟨rfl, hd_X10_term⟩ ⟨(Nat.le_of_ble_eq_true rfl), (Nat.le_of_ble_eq_true rfl)⟩) (kW_V kS2_blind (kS2_give hX hS hFc) (va_recv hKc hPc (ci := 10) (q0 := 0) rfl rfl) hPc hKc hDc) rfl rfl hl.1 rfl (lv_room (Nat.le_of_ble_eq_true rfl)) dX10_sum_57 ⟨(Nat.le_of_ble_eq_true rfl), (Nat.le_of_ble_eq_true rfl)⟩) hS (fun q _ h => hFc q h) hFc (fun r_20 u t H1 locs ht hvm hw hB hz1 hk1 hS => ?_)
            obtain ⟨a1_21, xf_22, xd_23⟩ := u
            obtain ⟨hP1, hK1, hD1⟩ := hB
            rw [ht] at hP1
            try dsimp only at hw
            obtain ⟨hP, hD⟩ : kPD dC dI A [(jM, kMo vs (.ref lt) (.ref tx) (.int (nI (be))) (.int (nI (en))) (.int (nI (a1_21))) (.int xf_22) (.int xd_23) ((((v14 : Value) : Value) : Value) : Value) ((((v15 : Value) : Value) : Value) : Value) (.ref q6) (.ref q7) ((((v18 : Value) : Value) : Value) : Value)), (tx, .inl (cT, nT, .inl gT)), (lt, .inl (cE, 128, .inl gE))] H1 := kJoinI hP hD [0, 1, 2] rfl hk1 hFc hP1 hD1 rfl [some 0, some 1, some 2] rfl rfl
            generalize H1 = H at hP hS ⊢
            have hw_24 := hw
            have hw_24_a := hw_24.1
            obtain ⟨z_25, ez_25⟩ : ∃ z : Int64, z = Int32.toInt64 r_20 := ⟨_, rfl⟩
            refine lv_i2l (v := z_25) hx hb dX10_sum_60 ez_25.symm ?_
            refine lv_lstore_n hx hb dX10_sum_61 rfl hl (by decide) (kTo [(3, .long z_25), (2, .int 0), (1, .int xv), (0, .ref jM)]) (fun ls hl => ?_)
            refine lv_iload_n hx hb dX10_sum_62 rfl (lv_at hl 1 rfl) ?_
            refine lv_if_eq (tgt := 73) hx hb dX10_sum_63 (by decide) (fun c_26 => ?_) (fun c_26 => absurd (by decide) c_26)
            refine lv_iload_n hx hb dX10_sum_73 rfl (lv_at hl 2 rfl) ?_
            obtain ⟨z_27, ez_27⟩ : ∃ z : Int64, z = Int32.toInt64 xv := ⟨_, rfl⟩
            refine lv_i2l (v := z_27) hx hb dX10_sum_74 ez_27.symm ?_
            refine lv_lload_n hx hb dX10_sum_75 rfl (lv_at hl 0 rfl) ?_
            refine lv_lsub hx hb dX10_sum_76 ?_
            refine lv_topl (fun z_28 ez_28 => ?_)
            have hPc := hP.sb (ws2 := []) [] rfl
            have hKc := hK.sb (tys2 := []) [] rfl
            refine vp_callSi (va_runS (As := [.long z_28]) (rest := []) ⟨hx, hb, hml, hown, hts⟩ (s_within10 l dC dI z_28) (va_cwS 1 hts (kG (List.forall_mem_cons.mpr ⟨(List.mem_cons_of_mem _ (List.mem_append_left _ (List.mem_of_getElem? (i := 26) rfl))), (List.forall_mem_cons.mpr ⟨(List.mem_cons_of_mem _ (List.mem_append_left _ (List.mem_of_getElem? (i := 25) rfl))), (List.forall_mem_cons.mpr ⟨(List.mem_cons_of_mem _ (List.mem_append_left _ (List.mem_of_getElem? (i := 0) rfl))), (fun _ h => absurd h List.not_mem_nil)⟩)⟩)⟩) (kGS _ _ _) (fun _ h => List.mem_cons_of_mem _ (List.mem_append_right _ (List.mem_append_right _ (List.mem_append_right _ (List.mem_append_right _ (List.mem_append_right _ (List.mem_append_right _ (List.mem_append_right _ (List.mem_append_left _ h))))))))) gw_s_within10) rfl rfl rfl hd_X10_within ⟨(Nat.le_of_ble_eq_true rfl), (Nat.le_of_ble_eq_true rfl)⟩) (kR_S kT_blind kT_give hPc hKc) rfl rfl hl.1 rfl (lv_room (Nat.le_of_ble_eq_true rfl)) dX10_sum_77 ⟨(Nat.le_of_ble_eq_true rfl), (Nat.le_of_ble_eq_true rfl)⟩).run (fun r_29 hw => ?_)
            refine lv_istore_n hx hb dX10_sum_80 rfl hl (by decide) (kTo [(1, .int r_29), (3, .long z_25), (2, .int 0), (0, .ref jM)]) (fun ls hl => ?_)
            refine lv_goto (tgt := 5) hx hb dX10_sum_81 (by decide) ?_
            exact ih_k_6 a1_21 xf_22 xd_23 r_29 (by omega) hw_24.2 _ _ hP hD hS ls (lv_sub hl [0, 3] rfl) (by omega)
          · have hns_30 := hw_16.1.resolve_left (fun z9 => absurd (c_18.symm.trans z9) (by decide))
            have hns_30_1 := hns_30.1
            refine lv_iconst (v := 1) hx hb dX10_sum_40 (by decide) ?_
            refine lv_goto (tgt := 45) hx hb dX10_sum_41 (by decide) ?_
            refine lv_istore_n hx hb dX10_sum_45 rfl hl (by decide) (kTo [(2, .int 1), (1, .int xv), (0, .ref jM)]) (fun ls hl => ?_)
            refine lv_aload_n hx hb dX10_sum_46 rfl (lv_at hl 2 rfl) ?_
            refine lv_dup hx hb dX10_sum_47 rfl ?_
            refine va_get (D := (dC, dI)) (ci := 10) (v := .int (nI (a1_10))) (C := RX10) (T := TX10) (N := 52) hx hb hts (fun _ h => List.mem_cons_of_mem _ (List.mem_append_right _ (List.mem_append_right _ (List.mem_append_left _ h)))) hown hK hP 0 rfl rfl 11 (by decide) (hts (.fieldLink RX10 141 "NotEndedModel" "at" "I") (List.mem_cons_of_mem _ (List.mem_append_left _ (List.mem_of_getElem? (i := 13) rfl)))) (fun _ h9 => h9) rfl dX10_sum_48 ?_
            refine lv_iconst (v := 1) hx hb dX10_sum_51 (by decide) ?_
            refine lv_iadd hx hb dX10_sum_52 ?_
            refine lv_topi (fun y_31 ey_31 => ?_)
            obtain rfl : y_31 = nI (a1_10 + 1) := ey_31.trans (nI_add (a1_10) (1))
            refine va_put (D := (dC, dI)) (ci := 10) (v := .int (nI (a1_10 + 1))) (ty := tyX10 11) (C := RX10) (T := TX10) (N := 52) hx hb hts (fun _ h => List.mem_cons_of_mem _ (List.mem_append_right _ (List.mem_append_right _ (List.mem_append_left _ h)))) tyX10 tyX10_ok nmX10 hown hK hP hD hS 0 rfl rfl 11 (by decide) (hts (.fieldLink RX10 141 "NotEndedModel" "at" "I") (List.mem_cons_of_mem _ (List.mem_append_left _ (List.mem_of_getElem? (i := 13) rfl)))) (fun _ h9 => h9) rfl (tyX10_ok 11 (by decide)) rfl rfl (Nat.le_of_ble_eq_true rfl) dX10_sum_53 (fun H locs hP hD hS => ?_)
            obtain ⟨hP, hD⟩ : kPD dC dI A [(jM, kMo vs (.ref lt) (.ref tx) (.int (nI (be))) (.int (nI (en))) (.int (nI (a1_10 + 1))) (.int (-1)) (.int 2) (((v14 : Value) : Value) : Value) (((v15 : Value) : Value) : Value) (.ref q6) (.ref q7) (((v18 : Value) : Value) : Value)), (tx, .inl (cT, nT, .inl gT)), (lt, .inl (cE, 128, .inl gE))] H := ⟨hP, hD⟩
            refine lv_aload_n hx hb dX10_sum_56 rfl (lv_at hl 2 rfl) ?_
            obtain ⟨hPc, hDc, hFc⟩ := kCut (wc := [(jM, kMo vs (.ref lt) (.ref tx) (.int (nI (be))) (.int (nI (en))) (.int (nI (a1_10 + 1))) (.int (-1)) (.int 2) (((v14 : Value) : Value) : Value) (((v15 : Value) : Value) : Value) (.ref q6) (.ref q7) (((v18 : Value) : Value) : Value)), (tx, .inl (cT, nT, .inl gT)), (lt, .inl (cE, 128, .inl gE))]) hP hD hS hA [0, 1, 2] rfl (by decide) rfl
            have hKc := hK.sb (tys2 := [(cT, .byte), (cE, .int)]) [0, 1] rfl
            refine va_calli (va_runV (As := []) (rest := []) ⟨hx, hb, hml, hown, hts⟩ (s_term10_2 l dC dI jM vs ((((v14 : Value) : Value) : Value) : Value) ((((v15 : Value) : Value) : Value) : Value) ((((v18 : Value) : Value) : Value) : Value) lt q6 q7 tx cT nT gT be en (a1_10 + 1) (by omega) (by omega) (by omega) cE gE b6 n6 g6 hn6 hg6 b7 n7 g7 hn7 hg7 H.size) (cwV 0 hts (kG (List.forall_mem_cons.mpr ⟨(List.mem_cons_of_mem _ (List.mem_append_left _ (List.mem_of_getElem? (i := 30) rfl))), (List.forall_mem_cons.mpr ⟨(List.mem_cons_of_mem _ (List.mem_append_left _ (List.mem_of_getElem? (i := 29) rfl))), (List.forall_mem_cons.mpr ⟨(List.mem_cons_of_mem _ (List.mem_append_left _ (List.mem_of_getElem? (i := 28) rfl))), (List.forall_mem_cons.mpr ⟨(List.mem_cons_of_mem _ (List.mem_append_left _ (List.mem_of_getElem? (i := 0) rfl))), (fun _ h => absurd h List.not_mem_nil)⟩)⟩)⟩)⟩) (kGV _ _ _ _) (kFam (List.mem_cons_of_mem _ (List.mem_append_left _ (List.mem_of_getElem? (i := 27) rfl)))) gw_s_term10_2) rfl rfl rfl ⟨rfl, hd_X10_term⟩ ⟨(Nat.le_of_ble_eq_true rfl), (Nat.le_of_ble_eq_true rfl)⟩) (kW_V kS2_blind (kS2_give hX hS hFc) (va_recv hKc hPc (ci := 10) (q0 := 0) rfl rfl) hPc hKc hDc) rfl rfl hl.1 rfl (lv_room (Nat.le_of_ble_eq_true rfl)) dX10_sum_57 ⟨(Nat.le_of_ble_eq_true rfl), (Nat.le_of_ble_eq_true rfl)⟩) hS (fun q _ h => hFc q h) hFc (fun r_32 u t H1 locs ht hvm hw hB hz1 hk1 hS => ?_)
            obtain ⟨a1_33, xf_34, xd_35⟩ := u
            obtain ⟨hP1, hK1, hD1⟩ := hB
            rw [ht] at hP1
            try dsimp only at hw
            obtain ⟨hP, hD⟩ : kPD dC dI A [(jM, kMo vs (.ref lt) (.ref tx) (.int (nI (be))) (.int (nI (en))) (.int (nI (a1_33))) (.int xf_34) (.int xd_35) ((((v14 : Value) : Value) : Value) : Value) ((((v15 : Value) : Value) : Value) : Value) (.ref q6) (.ref q7) ((((v18 : Value) : Value) : Value) : Value)), (tx, .inl (cT, nT, .inl gT)), (lt, .inl (cE, 128, .inl gE))] H1 := kJoinI hP hD [0, 1, 2] rfl hk1 hFc hP1 hD1 rfl [some 0, some 1, some 2] rfl rfl
            generalize H1 = H at hP hS ⊢
            have hw_36 := hw
            have hw_36_a := hw_36.1
            obtain ⟨z_37, ez_37⟩ : ∃ z : Int64, z = Int32.toInt64 r_32 := ⟨_, rfl⟩
            refine lv_i2l (v := z_37) hx hb dX10_sum_60 ez_37.symm ?_
            refine lv_lstore_n hx hb dX10_sum_61 rfl hl (by decide) (kTo [(3, .long z_37), (2, .int 1), (1, .int xv), (0, .ref jM)]) (fun ls hl => ?_)
            refine lv_iload_n hx hb dX10_sum_62 rfl (lv_at hl 1 rfl) ?_
            refine lv_if_eq (tgt := 73) hx hb dX10_sum_63 (by decide) (fun c_38 => absurd c_38 (by decide)) (fun c_38 => ?_)
            refine lv_iload_n hx hb dX10_sum_66 rfl (lv_at hl 2 rfl) ?_
            obtain ⟨z_39, ez_39⟩ : ∃ z : Int64, z = Int32.toInt64 xv := ⟨_, rfl⟩
            refine lv_i2l (v := z_39) hx hb dX10_sum_67 ez_39.symm ?_
            refine lv_lload_n hx hb dX10_sum_68 rfl (lv_at hl 0 rfl) ?_
            refine lv_ladd hx hb dX10_sum_69 ?_
            refine lv_topl (fun z_40 ez_40 => ?_)
            refine lv_goto (tgt := 77) hx hb dX10_sum_70 (by decide) ?_
            have hPc := hP.sb (ws2 := []) [] rfl
            have hKc := hK.sb (tys2 := []) [] rfl
            refine vp_callSi (va_runS (As := [.long z_40]) (rest := []) ⟨hx, hb, hml, hown, hts⟩ (s_within10 l dC dI z_40) (va_cwS 1 hts (kG (List.forall_mem_cons.mpr ⟨(List.mem_cons_of_mem _ (List.mem_append_left _ (List.mem_of_getElem? (i := 26) rfl))), (List.forall_mem_cons.mpr ⟨(List.mem_cons_of_mem _ (List.mem_append_left _ (List.mem_of_getElem? (i := 25) rfl))), (List.forall_mem_cons.mpr ⟨(List.mem_cons_of_mem _ (List.mem_append_left _ (List.mem_of_getElem? (i := 0) rfl))), (fun _ h => absurd h List.not_mem_nil)⟩)⟩)⟩) (kGS _ _ _) (fun _ h => List.mem_cons_of_mem _ (List.mem_append_right _ (List.mem_append_right _ (List.mem_append_right _ (List.mem_append_right _ (List.mem_append_right _ (List.mem_append_right _ (List.mem_append_right _ (List.mem_append_left _ h))))))))) gw_s_within10) rfl rfl rfl hd_X10_within ⟨(Nat.le_of_ble_eq_true rfl), (Nat.le_of_ble_eq_true rfl)⟩) (kR_S kT_blind kT_give hPc hKc) rfl rfl hl.1 rfl (lv_room (Nat.le_of_ble_eq_true rfl)) dX10_sum_77 ⟨(Nat.le_of_ble_eq_true rfl), (Nat.le_of_ble_eq_true rfl)⟩).run (fun r_41 hw => ?_)
            refine lv_istore_n hx hb dX10_sum_80 rfl hl (by decide) (kTo [(1, .int r_41), (3, .long z_37), (2, .int 1), (0, .ref jM)]) (fun ls hl => ?_)
            refine lv_goto (tgt := 5) hx hb dX10_sum_81 (by decide) ?_
            exact ih_k_6 a1_33 xf_34 xd_35 r_41 (by omega) hw_36.2 _ _ hP hD hS ls (lv_sub hl [0, 3] rfl) (by omega)
        · refine lv_aload_n hx hb dX10_sum_22 rfl (lv_at hl 1 rfl) ?_
          obtain ⟨hPc, hDc, hFc⟩ := kCut (wc := [(jM, kMo vs (.ref lt) (.ref tx) (.int (nI (be))) (.int (nI (en))) (.int (nI (a1_10))) (.int (-1)) (.int 2) ((v14 : Value) : Value) ((v15 : Value) : Value) (.ref q6) (.ref q7) ((v18 : Value) : Value)), (tx, .inl (cT, nT, .inl gT))]) hP hD hS hA [0, 1] rfl (by decide) rfl
          have hKc := hK.sb (tys2 := [(cT, .byte)]) [0] rfl
          refine va_calli (va_runV (As := []) (rest := []) ⟨hx, hb, hml, hown, hts⟩ (s_look10 l dC dI jM vs (.int (-1) : Value) (.int 2 : Value) (((v14 : Value) : Value) : Value) (((v15 : Value) : Value) : Value) (((v18 : Value) : Value) : Value) lt q6 q7 tx cT nT gT be en a1_10 (by omega) (by omega) (by omega) H.size) (cwV 0 hts (kG (List.forall_mem_cons.mpr ⟨(List.mem_cons_of_mem _ (List.mem_append_left _ (List.mem_of_getElem? (i := 3) rfl))), (List.forall_mem_cons.mpr ⟨(List.mem_cons_of_mem _ (List.mem_append_left _ (List.mem_of_getElem? (i := 2) rfl))), (List.forall_mem_cons.mpr ⟨(List.mem_cons_of_mem _ (List.mem_append_left _ (List.mem_of_getElem? (i := 1) rfl))), (List.forall_mem_cons.mpr ⟨(List.mem_cons_of_mem _ (List.mem_append_left _ (List.mem_of_getElem? (i := 0) rfl))), (fun _ h => absurd h List.not_mem_nil)⟩)⟩)⟩)⟩) (kGV _ _ _ _) (fun _ h => List.mem_cons_of_mem _ (List.mem_append_right _ (List.mem_append_left _ h))) gw_s_look10) rfl rfl rfl ⟨rfl, hd_X10_look⟩ ⟨(Nat.le_of_ble_eq_true rfl), (Nat.le_of_ble_eq_true rfl)⟩) (kW_V kT_blind kT_give (va_recv hKc hPc (ci := 10) (q0 := 0) rfl rfl) hPc hKc hDc) rfl rfl hl.1 rfl (lv_room (Nat.le_of_ble_eq_true rfl)) dX10_sum_23 ⟨(Nat.le_of_ble_eq_true rfl), (Nat.le_of_ble_eq_true rfl)⟩) hS (fun q _ h => hFc q h) hFc (fun r_42 u t H1 locs ht hvm hw hB hz1 hk1 hS => ?_)
          obtain ⟨a1_43, rfl⟩ : ∃ z, z = u := ⟨_, rfl⟩
          obtain ⟨hP1, hK1, hD1⟩ := hB
          rw [ht] at hP1
          try dsimp only at hw
          obtain ⟨hP, hD⟩ : kPD dC dI A [(jM, kMo vs (.ref lt) (.ref tx) (.int (nI (be))) (.int (nI (en))) (.int (nI (a1_43))) (.int (-1)) (.int 2) (((v14 : Value) : Value) : Value) (((v15 : Value) : Value) : Value) (.ref q6) (.ref q7) (((v18 : Value) : Value) : Value)), (tx, .inl (cT, nT, .inl gT)), (lt, .inl (cE, 128, .inl gE))] H1 := kJoinI hP hD [0, 1] rfl hk1 hFc hP1 hD1 rfl [some 0, some 1, none] rfl rfl
          generalize H1 = H at hP hS ⊢
          have hw_44 := hw
          have hw_44_3 := hw_44.2.1
          refine lv_bipush (v := 45) hx hb dX10_sum_26 (by decide) ?_
          refine lv_icmp_ne (tgt := 84) hx hb dX10_sum_28 (by decide) (fun c_45 => ?_) (fun c_45 => ?_)
          · refine lv_iload_n hx hb dX10_sum_84 rfl (lv_at hl 0 rfl) ?_
            have hP9 := hP
            have hD9 := hD
            have hK9 := hK
            rw [hQ]
            exact W.iret (v := xv) hx hb hr (fun t ht hW => ⟨⟨xv, (a1_43, (-1), 2), rfl, ⟨by omega, (fun _ => rfl)⟩,  by rw [ht]; exact hP9, va_K.moved hW.alike hK9, hD9⟩, hS.F ht⟩) hS.2.2 dX10_sum_85
          · have hns_46 := hw_44.1.resolve_left (fun z9 => absurd (c_45.symm.trans z9) (by decide))
            have hns_46_1 := hns_46.1
            refine lv_aload_n hx hb dX10_sum_31 rfl (lv_at hl 1 rfl) ?_
            obtain ⟨hPc, hDc, hFc⟩ := kCut (wc := [(jM, kMo vs (.ref lt) (.ref tx) (.int (nI (be))) (.int (nI (en))) (.int (nI (a1_43))) (.int (-1)) (.int 2) (((v14 : Value) : Value) : Value) (((v15 : Value) : Value) : Value) (.ref q6) (.ref q7) (((v18 : Value) : Value) : Value)), (tx, .inl (cT, nT, .inl gT))]) hP hD hS hA [0, 1] rfl (by decide) rfl
            have hKc := hK.sb (tys2 := [(cT, .byte)]) [0] rfl
            refine va_calli (va_runV (As := []) (rest := []) ⟨hx, hb, hml, hown, hts⟩ (s_look10 l dC dI jM vs (.int (-1) : Value) (.int 2 : Value) ((((v14 : Value) : Value) : Value) : Value) ((((v15 : Value) : Value) : Value) : Value) ((((v18 : Value) : Value) : Value) : Value) lt q6 q7 tx cT nT gT be en a1_43 (by omega) (by omega) (by omega) H.size) (cwV 0 hts (kG (List.forall_mem_cons.mpr ⟨(List.mem_cons_of_mem _ (List.mem_append_left _ (List.mem_of_getElem? (i := 3) rfl))), (List.forall_mem_cons.mpr ⟨(List.mem_cons_of_mem _ (List.mem_append_left _ (List.mem_of_getElem? (i := 2) rfl))), (List.forall_mem_cons.mpr ⟨(List.mem_cons_of_mem _ (List.mem_append_left _ (List.mem_of_getElem? (i := 1) rfl))), (List.forall_mem_cons.mpr ⟨(List.mem_cons_of_mem _ (List.mem_append_left _ (List.mem_of_getElem? (i := 0) rfl))), (fun _ h => absurd h List.not_mem_nil)⟩)⟩)⟩)⟩) (kGV _ _ _ _) (fun _ h => List.mem_cons_of_mem _ (List.mem_append_right _ (List.mem_append_left _ h))) gw_s_look10) rfl rfl rfl ⟨rfl, hd_X10_look⟩ ⟨(Nat.le_of_ble_eq_true rfl), (Nat.le_of_ble_eq_true rfl)⟩) (kW_V kT_blind kT_give (va_recv hKc hPc (ci := 10) (q0 := 0) rfl rfl) hPc hKc hDc) rfl rfl hl.1 rfl (lv_room (Nat.le_of_ble_eq_true rfl)) dX10_sum_32 ⟨(Nat.le_of_ble_eq_true rfl), (Nat.le_of_ble_eq_true rfl)⟩) hS (fun q _ h => hFc q h) hFc (fun r_47 u t H1 locs ht hvm hw hB hz1 hk1 hS => ?_)
            obtain ⟨a1_48, rfl⟩ : ∃ z, z = u := ⟨_, rfl⟩
            obtain ⟨hP1, hK1, hD1⟩ := hB
            rw [ht] at hP1
            try dsimp only at hw
            obtain ⟨hP, hD⟩ : kPD dC dI A [(jM, kMo vs (.ref lt) (.ref tx) (.int (nI (be))) (.int (nI (en))) (.int (nI (a1_48))) (.int (-1)) (.int 2) ((((v14 : Value) : Value) : Value) : Value) ((((v15 : Value) : Value) : Value) : Value) (.ref q6) (.ref q7) ((((v18 : Value) : Value) : Value) : Value)), (tx, .inl (cT, nT, .inl gT)), (lt, .inl (cE, 128, .inl gE))] H1 := kJoinI hP hD [0, 1] rfl hk1 hFc hP1 hD1 rfl [some 0, some 1, none] rfl rfl
            generalize H1 = H at hP hS ⊢
            have hw_49 := hw
            have e_50 : a1_43 = a1_48 := (hw_49.2.2 hns_46).symm
            subst e_50
            refine lv_bipush (v := 43) hx hb dX10_sum_35 (by decide) ?_
            refine lv_icmp_ne (tgt := 44) hx hb dX10_sum_37 (by decide) (fun c_51 => ?_) (fun c_51 => ?_)
            · refine lv_iconst (v := 0) hx hb dX10_sum_44 (by decide) ?_
              refine lv_istore_n hx hb dX10_sum_45 rfl hl (by decide) (kTo [(2, .int 0), (1, .int xv), (0, .ref jM)]) (fun ls hl => ?_)
              refine lv_aload_n hx hb dX10_sum_46 rfl (lv_at hl 2 rfl) ?_
              refine lv_dup hx hb dX10_sum_47 rfl ?_
              refine va_get (D := (dC, dI)) (ci := 10) (v := .int (nI (a1_43))) (C := RX10) (T := TX10) (N := 52) hx hb hts (fun _ h => List.mem_cons_of_mem _ (List.mem_append_right _ (List.mem_append_right _ (List.mem_append_left _ h)))) hown hK hP 0 rfl rfl 11 (by decide) (hts (.fieldLink RX10 141 "NotEndedModel" "at" "I") (List.mem_cons_of_mem _ (List.mem_append_left _ (List.mem_of_getElem? (i := 13) rfl)))) (fun _ h9 => h9) rfl dX10_sum_48 ?_
              refine lv_iconst (v := 1) hx hb dX10_sum_51 (by decide) ?_
              refine lv_iadd hx hb dX10_sum_52 ?_
              refine lv_topi (fun y_52 ey_52 => ?_)
              obtain rfl : y_52 = nI (a1_43 + 1) := ey_52.trans (nI_add (a1_43) (1))
              refine va_put (D := (dC, dI)) (ci := 10) (v := .int (nI (a1_43 + 1))) (ty := tyX10 11) (C := RX10) (T := TX10) (N := 52) hx hb hts (fun _ h => List.mem_cons_of_mem _ (List.mem_append_right _ (List.mem_append_right _ (List.mem_append_left _ h)))) tyX10 tyX10_ok nmX10 hown hK hP hD hS 0 rfl rfl 11 (by decide) (hts (.fieldLink RX10 141 "NotEndedModel" "at" "I") (List.mem_cons_of_mem _ (List.mem_append_left _ (List.mem_of_getElem? (i := 13) rfl)))) (fun _ h9 => h9) rfl (tyX10_ok 11 (by decide)) rfl rfl (Nat.le_of_ble_eq_true rfl) dX10_sum_53 (fun H locs hP hD hS => ?_)
              obtain ⟨hP, hD⟩ : kPD dC dI A [(jM, kMo vs (.ref lt) (.ref tx) (.int (nI (be))) (.int (nI (en))) (.int (nI (a1_43 + 1))) (.int (-1)) (.int 2) ((((v14 : Value) : Value) : Value) : Value) ((((v15 : Value) : Value) : Value) : Value) (.ref q6) (.ref q7) ((((v18 : Value) : Value) : Value) : Value)), (tx, .inl (cT, nT, .inl gT)), (lt, .inl (cE, 128, .inl gE))] H := ⟨hP, hD⟩
              refine lv_aload_n hx hb dX10_sum_56 rfl (lv_at hl 2 rfl) ?_
              obtain ⟨hPc, hDc, hFc⟩ := kCut (wc := [(jM, kMo vs (.ref lt) (.ref tx) (.int (nI (be))) (.int (nI (en))) (.int (nI (a1_43 + 1))) (.int (-1)) (.int 2) ((((v14 : Value) : Value) : Value) : Value) ((((v15 : Value) : Value) : Value) : Value) (.ref q6) (.ref q7) ((((v18 : Value) : Value) : Value) : Value)), (tx, .inl (cT, nT, .inl gT)), (lt, .inl (cE, 128, .inl gE))]) hP hD hS hA [0, 1, 2] rfl (by decide) rfl
              have hKc := hK.sb (tys2 := [(cT, .byte), (cE, .int)]) [0, 1] rfl
              refine va_calli (va_runV (As := []) (rest := []) ⟨hx, hb, hml, hown, hts⟩ (s_term10_2 l dC dI jM vs (((((v14 : Value) : Value) : Value) : Value) : Value) (((((v15 : Value) : Value) : Value) : Value) : Value) (((((v18 : Value) : Value) : Value) : Value) : Value) lt q6 q7 tx cT nT gT be en (a1_43 + 1) (by omega) (by omega) (by omega) cE gE b6 n6 g6 hn6 hg6 b7 n7 g7 hn7 hg7 H.size) (cwV 0 hts (kG (List.forall_mem_cons.mpr ⟨(List.mem_cons_of_mem _ (List.mem_append_left _ (List.mem_of_getElem? (i := 30) rfl))), (List.forall_mem_cons.mpr ⟨(List.mem_cons_of_mem _ (List.mem_append_left _ (List.mem_of_getElem? (i := 29) rfl))), (List.forall_mem_cons.mpr ⟨(List.mem_cons_of_mem _ (List.mem_append_left _ (List.mem_of_getElem? (i := 28) rfl))), (List.forall_mem_cons.mpr ⟨(List.mem_cons_of_mem _ (List.mem_append_left _ (List.mem_of_getElem? (i := 0) rfl))), (fun _ h => absurd h List.not_mem_nil)⟩)⟩)⟩)⟩) (kGV _ _ _ _) (kFam (List.mem_cons_of_mem _ (List.mem_append_left _ (List.mem_of_getElem? (i := 27) rfl)))) gw_s_term10_2) rfl rfl rfl ⟨rfl, hd_X10_term⟩ ⟨(Nat.le_of_ble_eq_true rfl), (Nat.le_of_ble_eq_true rfl)⟩) (kW_V kS2_blind (kS2_give hX hS hFc) (va_recv hKc hPc (ci := 10) (q0 := 0) rfl rfl) hPc hKc hDc) rfl rfl hl.1 rfl (lv_room (Nat.le_of_ble_eq_true rfl)) dX10_sum_57 ⟨(Nat.le_of_ble_eq_true rfl), (Nat.le_of_ble_eq_true rfl)⟩) hS (fun q _ h => hFc q h) hFc (fun r_53 u t H1 locs ht hvm hw hB hz1 hk1 hS => ?_)
              obtain ⟨a1_54, xf_55, xd_56⟩ := u
              obtain ⟨hP1, hK1, hD1⟩ := hB
              rw [ht] at hP1
              try dsimp only at hw
              obtain ⟨hP, hD⟩ : kPD dC dI A [(jM, kMo vs (.ref lt) (.ref tx) (.int (nI (be))) (.int (nI (en))) (.int (nI (a1_54))) (.int xf_55) (.int xd_56) (((((v14 : Value) : Value) : Value) : Value) : Value) (((((v15 : Value) : Value) : Value) : Value) : Value) (.ref q6) (.ref q7) (((((v18 : Value) : Value) : Value) : Value) : Value)), (tx, .inl (cT, nT, .inl gT)), (lt, .inl (cE, 128, .inl gE))] H1 := kJoinI hP hD [0, 1, 2] rfl hk1 hFc hP1 hD1 rfl [some 0, some 1, some 2] rfl rfl
              generalize H1 = H at hP hS ⊢
              have hw_57 := hw
              have hw_57_a := hw_57.1
              obtain ⟨z_58, ez_58⟩ : ∃ z : Int64, z = Int32.toInt64 r_53 := ⟨_, rfl⟩
              refine lv_i2l (v := z_58) hx hb dX10_sum_60 ez_58.symm ?_
              refine lv_lstore_n hx hb dX10_sum_61 rfl hl (by decide) (kTo [(3, .long z_58), (2, .int 0), (1, .int xv), (0, .ref jM)]) (fun ls hl => ?_)
              refine lv_iload_n hx hb dX10_sum_62 rfl (lv_at hl 1 rfl) ?_
              refine lv_if_eq (tgt := 73) hx hb dX10_sum_63 (by decide) (fun c_59 => ?_) (fun c_59 => absurd (by decide) c_59)
              refine lv_iload_n hx hb dX10_sum_73 rfl (lv_at hl 2 rfl) ?_
              obtain ⟨z_60, ez_60⟩ : ∃ z : Int64, z = Int32.toInt64 xv := ⟨_, rfl⟩
              refine lv_i2l (v := z_60) hx hb dX10_sum_74 ez_60.symm ?_
              refine lv_lload_n hx hb dX10_sum_75 rfl (lv_at hl 0 rfl) ?_
              refine lv_lsub hx hb dX10_sum_76 ?_
              refine lv_topl (fun z_61 ez_61 => ?_)
              have hPc := hP.sb (ws2 := []) [] rfl
              have hKc := hK.sb (tys2 := []) [] rfl
              refine vp_callSi (va_runS (As := [.long z_61]) (rest := []) ⟨hx, hb, hml, hown, hts⟩ (s_within10 l dC dI z_61) (va_cwS 1 hts (kG (List.forall_mem_cons.mpr ⟨(List.mem_cons_of_mem _ (List.mem_append_left _ (List.mem_of_getElem? (i := 26) rfl))), (List.forall_mem_cons.mpr ⟨(List.mem_cons_of_mem _ (List.mem_append_left _ (List.mem_of_getElem? (i := 25) rfl))), (List.forall_mem_cons.mpr ⟨(List.mem_cons_of_mem _ (List.mem_append_left _ (List.mem_of_getElem? (i := 0) rfl))), (fun _ h => absurd h List.not_mem_nil)⟩)⟩)⟩) (kGS _ _ _) (fun _ h => List.mem_cons_of_mem _ (List.mem_append_right _ (List.mem_append_right _ (List.mem_append_right _ (List.mem_append_right _ (List.mem_append_right _ (List.mem_append_right _ (List.mem_append_right _ (List.mem_append_left _ h))))))))) gw_s_within10) rfl rfl rfl hd_X10_within ⟨(Nat.le_of_ble_eq_true rfl), (Nat.le_of_ble_eq_true rfl)⟩) (kR_S kT_blind kT_give hPc hKc) rfl rfl hl.1 rfl (lv_room (Nat.le_of_ble_eq_true rfl)) dX10_sum_77 ⟨(Nat.le_of_ble_eq_true rfl), (Nat.le_of_ble_eq_true rfl)⟩).run (fun r_62 hw => ?_)
              refine lv_istore_n hx hb dX10_sum_80 rfl hl (by decide) (kTo [(1, .int r_62), (3, .long z_58), (2, .int 0), (0, .ref jM)]) (fun ls hl => ?_)
              refine lv_goto (tgt := 5) hx hb dX10_sum_81 (by decide) ?_
              exact ih_k_6 a1_54 xf_55 xd_56 r_62 (by omega) hw_57.2 _ _ hP hD hS ls (lv_sub hl [0, 3] rfl) (by omega)
            · have hns_63 := hw_49.1.resolve_left (fun z9 => absurd (c_51.symm.trans z9) (by decide))
              have hns_63_1 := hns_63.1
              refine lv_iconst (v := 1) hx hb dX10_sum_40 (by decide) ?_
              refine lv_goto (tgt := 45) hx hb dX10_sum_41 (by decide) ?_
              refine lv_istore_n hx hb dX10_sum_45 rfl hl (by decide) (kTo [(2, .int 1), (1, .int xv), (0, .ref jM)]) (fun ls hl => ?_)
              refine lv_aload_n hx hb dX10_sum_46 rfl (lv_at hl 2 rfl) ?_
              refine lv_dup hx hb dX10_sum_47 rfl ?_
              refine va_get (D := (dC, dI)) (ci := 10) (v := .int (nI (a1_43))) (C := RX10) (T := TX10) (N := 52) hx hb hts (fun _ h => List.mem_cons_of_mem _ (List.mem_append_right _ (List.mem_append_right _ (List.mem_append_left _ h)))) hown hK hP 0 rfl rfl 11 (by decide) (hts (.fieldLink RX10 141 "NotEndedModel" "at" "I") (List.mem_cons_of_mem _ (List.mem_append_left _ (List.mem_of_getElem? (i := 13) rfl)))) (fun _ h9 => h9) rfl dX10_sum_48 ?_
              refine lv_iconst (v := 1) hx hb dX10_sum_51 (by decide) ?_
              refine lv_iadd hx hb dX10_sum_52 ?_
              refine lv_topi (fun y_64 ey_64 => ?_)
              obtain rfl : y_64 = nI (a1_43 + 1) := ey_64.trans (nI_add (a1_43) (1))
              refine va_put (D := (dC, dI)) (ci := 10) (v := .int (nI (a1_43 + 1))) (ty := tyX10 11) (C := RX10) (T := TX10) (N := 52) hx hb hts (fun _ h => List.mem_cons_of_mem _ (List.mem_append_right _ (List.mem_append_right _ (List.mem_append_left _ h)))) tyX10 tyX10_ok nmX10 hown hK hP hD hS 0 rfl rfl 11 (by decide) (hts (.fieldLink RX10 141 "NotEndedModel" "at" "I") (List.mem_cons_of_mem _ (List.mem_append_left _ (List.mem_of_getElem? (i := 13) rfl)))) (fun _ h9 => h9) rfl (tyX10_ok 11 (by decide)) rfl rfl (Nat.le_of_ble_eq_true rfl) dX10_sum_53 (fun H locs hP hD hS => ?_)
              obtain ⟨hP, hD⟩ : kPD dC dI A [(jM, kMo vs (.ref lt) (.ref tx) (.int (nI (be))) (.int (nI (en))) (.int (nI (a1_43 + 1))) (.int (-1)) (.int 2) ((((v14 : Value) : Value) : Value) : Value) ((((v15 : Value) : Value) : Value) : Value) (.ref q6) (.ref q7) ((((v18 : Value) : Value) : Value) : Value)), (tx, .inl (cT, nT, .inl gT)), (lt, .inl (cE, 128, .inl gE))] H := ⟨hP, hD⟩
              refine lv_aload_n hx hb dX10_sum_56 rfl (lv_at hl 2 rfl) ?_
              obtain ⟨hPc, hDc, hFc⟩ := kCut (wc := [(jM, kMo vs (.ref lt) (.ref tx) (.int (nI (be))) (.int (nI (en))) (.int (nI (a1_43 + 1))) (.int (-1)) (.int 2) ((((v14 : Value) : Value) : Value) : Value) ((((v15 : Value) : Value) : Value) : Value) (.ref q6) (.ref q7) ((((v18 : Value) : Value) : Value) : Value)), (tx, .inl (cT, nT, .inl gT)), (lt, .inl (cE, 128, .inl gE))]) hP hD hS hA [0, 1, 2] rfl (by decide) rfl
              have hKc := hK.sb (tys2 := [(cT, .byte), (cE, .int)]) [0, 1] rfl
              refine va_calli (va_runV (As := []) (rest := []) ⟨hx, hb, hml, hown, hts⟩ (s_term10_2 l dC dI jM vs (((((v14 : Value) : Value) : Value) : Value) : Value) (((((v15 : Value) : Value) : Value) : Value) : Value) (((((v18 : Value) : Value) : Value) : Value) : Value) lt q6 q7 tx cT nT gT be en (a1_43 + 1) (by omega) (by omega) (by omega) cE gE b6 n6 g6 hn6 hg6 b7 n7 g7 hn7 hg7 H.size) (cwV 0 hts (kG (List.forall_mem_cons.mpr ⟨(List.mem_cons_of_mem _ (List.mem_append_left _ (List.mem_of_getElem? (i := 30) rfl))), (List.forall_mem_cons.mpr ⟨(List.mem_cons_of_mem _ (List.mem_append_left _ (List.mem_of_getElem? (i := 29) rfl))), (List.forall_mem_cons.mpr ⟨(List.mem_cons_of_mem _ (List.mem_append_left _ (List.mem_of_getElem? (i := 28) rfl))), (List.forall_mem_cons.mpr ⟨(List.mem_cons_of_mem _ (List.mem_append_left _ (List.mem_of_getElem? (i := 0) rfl))), (fun _ h => absurd h List.not_mem_nil)⟩)⟩)⟩)⟩) (kGV _ _ _ _) (kFam (List.mem_cons_of_mem _ (List.mem_append_left _ (List.mem_of_getElem? (i := 27) rfl)))) gw_s_term10_2) rfl rfl rfl ⟨rfl, hd_X10_term⟩ ⟨(Nat.le_of_ble_eq_true rfl), (Nat.le_of_ble_eq_true rfl)⟩) (kW_V kS2_blind (kS2_give hX hS hFc) (va_recv hKc hPc (ci := 10) (q0 := 0) rfl rfl) hPc hKc hDc) rfl rfl hl.1 rfl (lv_room (Nat.le_of_ble_eq_true rfl)) dX10_sum_57 ⟨(Nat.le_of_ble_eq_true rfl), (Nat.le_of_ble_eq_true rfl)⟩) hS (fun q _ h => hFc q h) hFc (fun r_65 u t H1 locs ht hvm hw hB hz1 hk1 hS => ?_)
              obtain ⟨a1_66, xf_67, xd_68⟩ := u
              obtain ⟨hP1, hK1, hD1⟩ := hB
              rw [ht] at hP1
              try dsimp only at hw
              obtain ⟨hP, hD⟩ : kPD dC dI A [(jM, kMo vs (.ref lt) (.ref tx) (.int (nI (be))) (.int (nI (en))) (.int (nI (a1_66))) (.int xf_67) (.int xd_68) (((((v14 : Value) : Value) : Value) : Value) : Value) (((((v15 : Value) : Value) : Value) : Value) : Value) (.ref q6) (.ref q7) (((((v18 : Value) : Value) : Value) : Value) : Value)), (tx, .inl (cT, nT, .inl gT)), (lt, .inl (cE, 128, .inl gE))] H1 := kJoinI hP hD [0, 1, 2] rfl hk1 hFc hP1 hD1 rfl [some 0, some 1, some 2] rfl rfl
              generalize H1 = H at hP hS ⊢
              have hw_69 := hw
              have hw_69_a := hw_69.1
              obtain ⟨z_70, ez_70⟩ : ∃ z : Int64, z = Int32.toInt64 r_65 := ⟨_, rfl⟩
              refine lv_i2l (v := z_70) hx hb dX10_sum_60 ez_70.symm ?_
              refine lv_lstore_n hx hb dX10_sum_61 rfl hl (by decide) (kTo [(3, .long z_70), (2, .int 1), (1, .int xv), (0, .ref jM)]) (fun ls hl => ?_)
              refine lv_iload_n hx hb dX10_sum_62 rfl (lv_at hl 1 rfl) ?_
              refine lv_if_eq (tgt := 73) hx hb dX10_sum_63 (by decide) (fun c_71 => absurd c_71 (by decide)) (fun c_71 => ?_)
              refine lv_iload_n hx hb dX10_sum_66 rfl (lv_at hl 2 rfl) ?_
              obtain ⟨z_72, ez_72⟩ : ∃ z : Int64, z = Int32.toInt64 xv := ⟨_, rfl⟩
              refine lv_i2l (v := z_72) hx hb dX10_sum_67 ez_72.symm ?_
              refine lv_lload_n hx hb dX10_sum_68 rfl (lv_at hl 0 rfl) ?_
              refine lv_ladd hx hb dX10_sum_69 ?_
              refine lv_topl (fun z_73 ez_73 => ?_)
              refine lv_goto (tgt := 77) hx hb dX10_sum_70 (by decide) ?_
              have hPc := hP.sb (ws2 := []) [] rfl
              have hKc := hK.sb (tys2 := []) [] rfl
              refine vp_callSi (va_runS (As := [.long z_73]) (rest := []) ⟨hx, hb, hml, hown, hts⟩ (s_within10 l dC dI z_73) (va_cwS 1 hts (kG (List.forall_mem_cons.mpr ⟨(List.mem_cons_of_mem _ (List.mem_append_left _ (List.mem_of_getElem? (i := 26) rfl))), (List.forall_mem_cons.mpr ⟨(List.mem_cons_of_mem _ (List.mem_append_left _ (List.mem_of_getElem? (i := 25) rfl))), (List.forall_mem_cons.mpr ⟨(List.mem_cons_of_mem _ (List.mem_append_left _ (List.mem_of_getElem? (i := 0) rfl))), (fun _ h => absurd h List.not_mem_nil)⟩)⟩)⟩) (kGS _ _ _) (fun _ h => List.mem_cons_of_mem _ (List.mem_append_right _ (List.mem_append_right _ (List.mem_append_right _ (List.mem_append_right _ (List.mem_append_right _ (List.mem_append_right _ (List.mem_append_right _ (List.mem_append_left _ h))))))))) gw_s_within10) rfl rfl rfl hd_X10_within ⟨(Nat.le_of_ble_eq_true rfl), (Nat.le_of_ble_eq_true rfl)⟩) (kR_S kT_blind kT_give hPc hKc) rfl rfl hl.1 rfl (lv_room (Nat.le_of_ble_eq_true rfl)) dX10_sum_77 ⟨(Nat.le_of_ble_eq_true rfl), (Nat.le_of_ble_eq_true rfl)⟩).run (fun r_74 hw => ?_)
              refine lv_istore_n hx hb dX10_sum_80 rfl hl (by decide) (kTo [(1, .int r_74), (3, .long z_70), (2, .int 1), (0, .ref jM)]) (fun ls hl => ?_)
              refine lv_goto (tgt := 5) hx hb dX10_sum_81 (by decide) ?_
              exact ih_k_6 a1_66 xf_67 xd_68 r_74 (by omega) hw_69.2 _ _ hP hD hS ls (lv_sub hl [0, 3] rfl) (by omega)
  exact lp_k_6 (en - a1_2 + 1) a1_2 xf_3 xd_4 r_1 (by omega) hw_5.2 _ _ hP hD hS ls (lv_sub hl [0, 1] rfl) (by omega)

def w_s_comp10_2_0 : List Cond := .code yX10_compares cX10_compares 6 (some .boolean) :: wf_md
theorem gw_s_comp10_2_0 : (w_s_comp10_2_0).all goodWord = true := kFamG rfl gf_md
set_option maxHeartbeats 4000000 in
set_option maxRecDepth 100000 in
theorem s_comp10_2_0 (l : Launch) (dC : Nat → ClassId) (dI : Nat → Nat → Nat) (jM : Nat) (vs : Nat → Value) (v14 : Value) (v15 : Value) (v18 : Value) (lt : Nat) (q6 : Nat) (q7 : Nat) (tx : Nat) (cT : ClassId) (nT : Nat) (gT : Nat → Int32) (be : Nat) (en : Nat) (a : Nat) (hbe : be + en ≤ nT) (hnT : nT ≤ 1680) (ha : a ≤ en) (cE : ClassId) (gE : Nat → Int32) (b6 : Nat) (n6 : Nat) (g6 : Nat → Int32) (hn6 : n6 ≤ 8) (hg6 : ∀ k : Nat, ∃ v : Nat, v < 128 ∧ g6 k = nI v) (b7 : Nat) (n7 : Nat) (g7 : Nat → Int32) (hn7 : n7 ≤ 8) (hg7 : ∀ k : Nat, ∃ v : Nat, v < 128 ∧ g7 k = nI v) (p1 : Int32) (sz : Nat) : Met l yX10_compares w_s_comp10_2_0 ({ frames := 38, cells := 0, slots := 0, locals := 2280 }) (kW dC dI [.ref jM, .int 0, .int p1] [(jM, kMo vs (.ref lt) (.ref tx) (.int (nI (be))) (.int (nI (en))) (.int (nI (a))) (.int (-1)) (.int 2) v14 v15 (.ref q6) (.ref q7) v18), (tx, .inl (cT, nT, .inl gT)), (lt, .inl (cE, 128, .inl gE))] [(cT, .byte), (cE, .int)] (kS2 q6 b6 n6 g6 q7 b7 n7 g7 (va_A [(jM, kMo vs (.ref lt) (.ref tx) (.int (nI (be))) (.int (nI (en))) (.int (nI (a))) (.int (-1)) (.int 2) v14 v15 (.ref q6) (.ref q7) v18), (tx, .inl (cT, nT, .inl gT)), (lt, .inl (cE, 128, .inl gE))] sz)) sz) (va_Qi (fun (r : Int32) (u : Nat × Int32 × Int32) => match u with | (a1, xf, xd) => ((r = 0 ∨ r = 1) ∧ (a ≤ a1 ∧ a1 ≤ en) ∧ (xf = -1 → xd = 2))) (fun (u : Nat × Int32 × Int32) => match u with | (a1, xf, xd) => fun t : State => kB dC dI [(jM, kMo vs (.ref lt) (.ref tx) (.int (nI (be))) (.int (nI (en))) (.int (nI (a1))) (.int xf) (.int xd) v14 v15 (.ref q6) (.ref q7) v18), (tx, .inl (cT, nT, .inl gT)), (lt, .inl (cE, 128, .inl gE))] [(cT, .byte), (cE, .int)] (va_A [(jM, kMo vs (.ref lt) (.ref tx) (.int (nI (be))) (.int (nI (en))) (.int (nI (a))) (.int (-1)) (.int 2) v14 v15 (.ref q6) (.ref q7) v18), (tx, .inl (cT, nT, .inl gT)), (lt, .inl (cE, 128, .inl gE))] sz) t) (va_A [(jM, kMo vs (.ref lt) (.ref tx) (.int (nI (be))) (.int (nI (en))) (.int (nI (a))) (.int (-1)) (.int 2) v14 v15 (.ref q6) (.ref q7) v18), (tx, .inl (cT, nT, .inl gT)), (lt, .inl (cE, 128, .inl gE))] sz)) 0 0 (va_A [(jM, kMo vs (.ref lt) (.ref tx) (.int (nI (be))) (.int (nI (en))) (.int (nI (a))) (.int (-1)) (.int 2) v14 v15 (.ref q6) (.ref q7) v18), (tx, .inl (cT, nT, .inl gT)), (lt, .inl (cE, 128, .inl gE))] sz) := by
  refine Met.ofW (cc := cX10_compares) (maxL := 6) (ret := (some .boolean)) (by decide) rfl ?_
  intro p e s m args below meth c s₁ B hml hv
  obtain ⟨rfl, hsz, hP, hK, hD0, hX⟩ := hv
  have hx := B.exec
  have hb := B.bytes
  have hr := B.returns
  have hts := atoms_spec (ws := w_s_comp10_2_0) B.pre
  have hown : s.vm.findClass RX10 = some m.cls := findClass_of_methodNamed B.named
  have hlocks := B.notSynchronized
  subst hsz
  have hD := hD0.self (sz := s.heap.size)
  generalize hAe : va_A [(jM, kMo vs (.ref lt) (.ref tx) (.int (nI (be))) (.int (nI (en))) (.int (nI (a))) (.int (-1)) (.int 2) v14 v15 (.ref q6) (.ref q7) v18), (tx, .inl (cT, nT, .inl gT)), (lt, .inl (cE, 128, .inl gE))] s.heap.size = A at hD hX ⊢
  have hA : ∀ q : Nat, s.heap.size ≤ q → A q := fun q h => by rw [← hAe]; exact Or.inr h
  have hS : va_S A s.heap s.heap [] := va_S.rf
  have hP : va_P (dC, dI) vwCl [(jM, kMo vs (.ref lt) (.ref tx) (.int (nI (be))) (.int (nI (en))) (.int (nI (a))) (.int (-1)) (.int 2) v14 v15 (.ref q6) (.ref q7) v18), (tx, .inl (cT, nT, .inl gT)), (lt, .inl (cE, 128, .inl gE))] s.heap := hP
  have hl := lv_entry ([.ref jM, .int 0, .int p1]) (n := 6) (Nat.le_of_ble_eq_true rfl)
  rw [lg_entry_eq]
  generalize (lg_sl ([.ref jM, .int 0, .int p1]) ++ List.replicate (6 - (lg_sl ([.ref jM, .int 0, .int p1])).length) Slot.unset).toArray = ls at hl ⊢
  have hl : lv_has ls 6 [(0, .ref jM), (1, .int 0), (2, .int p1)] := hl
  refine kQ (fun Q hQ => ?_)
  refine lv_iload_n hx hb dX10_compares_0 rfl (lv_at hl 1 rfl) ?_
  refine lv_if_eq (tgt := 8) hx hb dX10_compares_1 (by decide) (fun c_1 => ?_) (fun c_1 => absurd (by decide) c_1)
  refine lv_aload_n hx hb dX10_compares_8 rfl (lv_at hl 0 rfl) ?_
  obtain ⟨hPc, hDc, hFc⟩ := kCut (wc := [(jM, kMo vs (.ref lt) (.ref tx) (.int (nI (be))) (.int (nI (en))) (.int (nI (a))) (.int (-1)) (.int 2) v14 v15 (.ref q6) (.ref q7) v18), (tx, .inl (cT, nT, .inl gT)), (lt, .inl (cE, 128, .inl gE))]) hP hD hS hA [0, 1, 2] rfl (by decide) rfl
  have hKc := hK.sb (tys2 := [(cT, .byte), (cE, .int)]) [0, 1] rfl
  refine va_calli (va_runV (As := []) (rest := []) ⟨hx, hb, hml, hown, hts⟩ (s_sum10_2 l dC dI jM vs (v14 : Value) (v15 : Value) (v18 : Value) lt q6 q7 tx cT nT gT be en a (by omega) (by omega) (by omega) cE gE b6 n6 g6 hn6 hg6 b7 n7 g7 hn7 hg7 s.heap.size) (cwV 0 hts (kG (List.forall_mem_cons.mpr ⟨(List.mem_cons_of_mem _ (List.mem_append_left _ (List.mem_of_getElem? (i := 34) rfl))), (List.forall_mem_cons.mpr ⟨(List.mem_cons_of_mem _ (List.mem_append_left _ (List.mem_of_getElem? (i := 33) rfl))), (List.forall_mem_cons.mpr ⟨(List.mem_cons_of_mem _ (List.mem_append_left _ (List.mem_of_getElem? (i := 32) rfl))), (List.forall_mem_cons.mpr ⟨(List.mem_cons_of_mem _ (List.mem_append_left _ (List.mem_of_getElem? (i := 0) rfl))), (fun _ h => absurd h List.not_mem_nil)⟩)⟩)⟩)⟩) (kGV _ _ _ _) (kFam (List.mem_cons_of_mem _ (List.mem_append_left _ (List.mem_of_getElem? (i := 31) rfl)))) gw_s_sum10_2) rfl rfl rfl ⟨rfl, hd_X10_sum⟩ ⟨(Nat.le_of_ble_eq_true rfl), (Nat.le_of_ble_eq_true rfl)⟩) (kW_V kS2_blind (kS2_give hX hS hFc) (va_recv hKc hPc (ci := 10) (q0 := 0) rfl rfl) hPc hKc hDc) rfl rfl hl.1 rfl (lv_room (Nat.le_of_ble_eq_true rfl)) dX10_compares_9 ⟨(Nat.le_of_ble_eq_true rfl), (Nat.le_of_ble_eq_true rfl)⟩) hS (fun q _ h => hFc q h) hFc (fun r_2 u t H1 locs ht hvm hw hB hz1 hk1 hS => ?_)
  obtain ⟨a1_3, xf_4, xd_5⟩ := u
  obtain ⟨hP1, hK1, hD1⟩ := hB
  rw [ht] at hP1
  try dsimp only at hw
  obtain ⟨hP, hD⟩ : kPD dC dI A [(jM, kMo vs (.ref lt) (.ref tx) (.int (nI (be))) (.int (nI (en))) (.int (nI (a1_3))) (.int xf_4) (.int xd_5) (v14 : Value) (v15 : Value) (.ref q6) (.ref q7) (v18 : Value)), (tx, .inl (cT, nT, .inl gT)), (lt, .inl (cE, 128, .inl gE))] H1 := kJoinI hP hD [0, 1, 2] rfl hk1 hFc hP1 hD1 rfl [some 0, some 1, some 2] rfl rfl
  generalize H1 = H at hP hS ⊢
  have hw_6 := hw
  have hw_6_a := hw_6.1
  refine lv_istore_n hx hb dX10_compares_12 rfl hl (by decide) (kTo [(3, .int r_2), (0, .ref jM), (1, .int 0), (2, .int p1)]) (fun ls hl => ?_)
  refine lv_aload_n hx hb dX10_compares_13 rfl (lv_at hl 1 rfl) ?_
  refine va_get (D := (dC, dI)) (ci := 10) (v := .int xf_4) (C := RX10) (T := TX10) (N := 52) hx hb hts (fun _ h => List.mem_cons_of_mem _ (List.mem_append_right _ (List.mem_append_right _ (List.mem_append_left _ h)))) hown hK hP 0 rfl rfl 12 (by decide) (hts (.fieldLink RX10 150 "NotEndedModel" "fault" "I") (List.mem_cons_of_mem _ (List.mem_append_left _ (List.mem_of_getElem? (i := 10) rfl)))) (fun _ h9 => h9) rfl dX10_compares_14 ?_
  refine lv_iconst (v := (-1)) hx hb dX10_compares_17 (by decide) ?_
  refine lv_icmp_eq (tgt := 23) hx hb dX10_compares_18 (by decide) (fun c_7 => ?_) (fun c_7 => ?_)
  · have e_8 := hw_6.2 c_7
    subst e_8
    subst c_7
    refine lv_aload_n hx hb dX10_compares_23 rfl (lv_at hl 1 rfl) ?_
    obtain ⟨hPc, hDc, hFc⟩ := kCut (wc := [(jM, kMo vs (.ref lt) (.ref tx) (.int (nI (be))) (.int (nI (en))) (.int (nI (a1_3))) (.int (-1)) (.int 2) (v14 : Value) (v15 : Value) (.ref q6) (.ref q7) (v18 : Value)), (tx, .inl (cT, nT, .inl gT))]) hP hD hS hA [0, 1] rfl (by decide) rfl
    have hKc := hK.sb (tys2 := [(cT, .byte)]) [0] rfl
    refine va_calli (va_runV (As := []) (rest := []) ⟨hx, hb, hml, hown, hts⟩ (s_look10 l dC dI jM vs (.int (-1) : Value) (.int 2 : Value) ((v14 : Value) : Value) ((v15 : Value) : Value) ((v18 : Value) : Value) lt q6 q7 tx cT nT gT be en a1_3 (by omega) (by omega) (by omega) H.size) (cwV 0 hts (kG (List.forall_mem_cons.mpr ⟨(List.mem_cons_of_mem _ (List.mem_append_left _ (List.mem_of_getElem? (i := 3) rfl))), (List.forall_mem_cons.mpr ⟨(List.mem_cons_of_mem _ (List.mem_append_left _ (List.mem_of_getElem? (i := 2) rfl))), (List.forall_mem_cons.mpr ⟨(List.mem_cons_of_mem _ (List.mem_append_left _ (List.mem_of_getElem? (i := 1) rfl))), (List.forall_mem_cons.mpr ⟨(List.mem_cons_of_mem _ (List.mem_append_left _ (List.mem_of_getElem? (i := 0) rfl))), (fun _ h => absurd h List.not_mem_nil)⟩)⟩)⟩)⟩) (kGV _ _ _ _) (fun _ h => List.mem_cons_of_mem _ (List.mem_append_right _ (List.mem_append_left _ h))) gw_s_look10) rfl rfl rfl ⟨rfl, hd_X10_look⟩ ⟨(Nat.le_of_ble_eq_true rfl), (Nat.le_of_ble_eq_true rfl)⟩) (kW_V kT_blind kT_give (va_recv hKc hPc (ci := 10) (q0 := 0) rfl rfl) hPc hKc hDc) rfl rfl hl.1 rfl (lv_room (Nat.le_of_ble_eq_true rfl)) dX10_compares_24 ⟨(Nat.le_of_ble_eq_true rfl), (Nat.le_of_ble_eq_true rfl)⟩) hS (fun q _ h => hFc q h) hFc (fun r_9 u t H1 locs ht hvm hw hB hz1 hk1 hS => ?_)
    obtain ⟨a1_10, rfl⟩ : ∃ z, z = u := ⟨_, rfl⟩
    obtain ⟨hP1, hK1, hD1⟩ := hB
    rw [ht] at hP1
    try dsimp only at hw
    obtain ⟨hP, hD⟩ : kPD dC dI A [(jM, kMo vs (.ref lt) (.ref tx) (.int (nI (be))) (.int (nI (en))) (.int (nI (a1_10))) (.int (-1)) (.int 2) ((v14 : Value) : Value) ((v15 : Value) : Value) (.ref q6) (.ref q7) ((v18 : Value) : Value)), (tx, .inl (cT, nT, .inl gT)), (lt, .inl (cE, 128, .inl gE))] H1 := kJoinI hP hD [0, 1] rfl hk1 hFc hP1 hD1 rfl [some 0, some 1, none] rfl rfl
    generalize H1 = H at hP hS ⊢
    have hw_11 := hw
    have hw_11_3 := hw_11.2.1
    refine lv_istore hx hb dX10_compares_27 hl (by decide) (kTo [(4, .int r_9), (3, .int r_2), (0, .ref jM), (1, .int 0), (2, .int p1)]) (fun ls hl => ?_)
    refine lv_iload hx hb dX10_compares_29 (lv_at hl 0 rfl) ?_
    have hPc := hP.sb (ws2 := []) [] rfl
    have hKc := hK.sb (tys2 := []) [] rfl
    refine vp_callSi (va_runS (As := [.int r_9]) (rest := []) ⟨hx, hb, hml, hown, hts⟩ (s_isSign10 l dC dI r_9) (va_cwS 1 hts (kG (List.forall_mem_cons.mpr ⟨(List.mem_cons_of_mem _ (List.mem_append_left _ (List.mem_of_getElem? (i := 36) rfl))), (List.forall_mem_cons.mpr ⟨(List.mem_cons_of_mem _ (List.mem_append_left _ (List.mem_of_getElem? (i := 35) rfl))), (List.forall_mem_cons.mpr ⟨(List.mem_cons_of_mem _ (List.mem_append_left _ (List.mem_of_getElem? (i := 0) rfl))), (fun _ h => absurd h List.not_mem_nil)⟩)⟩)⟩) (kGS _ _ _) (fun _ h => List.mem_cons_of_mem _ (List.mem_append_right _ (List.mem_append_right _ (List.mem_append_right _ (List.mem_append_right _ (List.mem_append_right _ (List.mem_append_right _ (List.mem_append_right _ (List.mem_append_right _ (List.mem_append_left _ h)))))))))) gw_s_isSign10) rfl rfl rfl hd_X10_isSign ⟨(Nat.le_of_ble_eq_true rfl), (Nat.le_of_ble_eq_true rfl)⟩) (kR_S kT_blind kT_give hPc hKc) rfl rfl hl.1 rfl (lv_room (Nat.le_of_ble_eq_true rfl)) dX10_compares_31 ⟨(Nat.le_of_ble_eq_true rfl), (Nat.le_of_ble_eq_true rfl)⟩).run (fun r_12 hw => ?_)
    have hw_13 := hw
    refine lv_if_ne (tgt := 42) hx hb dX10_compares_34 (by decide) (fun c_14 => ?_) (fun c_14 => ?_)
    · have hns_15 := hw_11.1.resolve_left (hw_13 c_14)
      have hns_15_1 := hns_15.1
      refine lv_aload_n hx hb dX10_compares_42 rfl (lv_at hl 2 rfl) ?_
      refine lv_dup hx hb dX10_compares_43 rfl ?_
      refine va_get (D := (dC, dI)) (ci := 10) (v := .int (nI (a1_10))) (C := RX10) (T := TX10) (N := 52) hx hb hts (fun _ h => List.mem_cons_of_mem _ (List.mem_append_right _ (List.mem_append_right _ (List.mem_append_left _ h)))) hown hK hP 0 rfl rfl 11 (by decide) (hts (.fieldLink RX10 141 "NotEndedModel" "at" "I") (List.mem_cons_of_mem _ (List.mem_append_left _ (List.mem_of_getElem? (i := 13) rfl)))) (fun _ h9 => h9) rfl dX10_compares_44 ?_
      refine lv_iconst (v := 1) hx hb dX10_compares_47 (by decide) ?_
      refine lv_iadd hx hb dX10_compares_48 ?_
      refine lv_topi (fun y_16 ey_16 => ?_)
      obtain rfl : y_16 = nI (a1_10 + 1) := ey_16.trans (nI_add (a1_10) (1))
      refine va_put (D := (dC, dI)) (ci := 10) (v := .int (nI (a1_10 + 1))) (ty := tyX10 11) (C := RX10) (T := TX10) (N := 52) hx hb hts (fun _ h => List.mem_cons_of_mem _ (List.mem_append_right _ (List.mem_append_right _ (List.mem_append_left _ h)))) tyX10 tyX10_ok nmX10 hown hK hP hD hS 0 rfl rfl 11 (by decide) (hts (.fieldLink RX10 141 "NotEndedModel" "at" "I") (List.mem_cons_of_mem _ (List.mem_append_left _ (List.mem_of_getElem? (i := 13) rfl)))) (fun _ h9 => h9) rfl (tyX10_ok 11 (by decide)) rfl rfl (Nat.le_of_ble_eq_true rfl) dX10_compares_49 (fun H locs hP hD hS => ?_)
      obtain ⟨hP, hD⟩ : kPD dC dI A [(jM, kMo vs (.ref lt) (.ref tx) (.int (nI (be))) (.int (nI (en))) (.int (nI (a1_10 + 1))) (.int (-1)) (.int 2) ((v14 : Value) : Value) ((v15 : Value) : Value) (.ref q6) (.ref q7) ((v18 : Value) : Value)), (tx, .inl (cT, nT, .inl gT)), (lt, .inl (cE, 128, .inl gE))] H := ⟨hP, hD⟩
      refine lv_aload_n hx hb dX10_compares_52 rfl (lv_at hl 2 rfl) ?_
      obtain ⟨hPc, hDc, hFc⟩ := kCut (wc := [(jM, kMo vs (.ref lt) (.ref tx) (.int (nI (be))) (.int (nI (en))) (.int (nI (a1_10 + 1))) (.int (-1)) (.int 2) ((v14 : Value) : Value) ((v15 : Value) : Value) (.ref q6) (.ref q7) ((v18 : Value) : Value)), (tx, .inl (cT, nT, .inl gT)), (lt, .inl (cE, 128, .inl gE))]) hP hD hS hA [0, 1, 2] rfl (by decide) rfl
      have hKc := hK.sb (tys2 := [(cT, .byte), (cE, .int)]) [0, 1] rfl
      refine va_calli (va_runV (As := []) (rest := []) ⟨hx, hb, hml, hown, hts⟩ (s_sum10_2 l dC dI jM vs (((v14 : Value) : Value) : Value) (((v15 : Value) : Value) : Value) (((v18 : Value) : Value) : Value) lt q6 q7 tx cT nT gT be en (a1_10 + 1) (by omega) (by omega) (by omega) cE gE b6 n6 g6 hn6 hg6 b7 n7 g7 hn7 hg7 H.size) (cwV 0 hts (kG (List.forall_mem_cons.mpr ⟨(List.mem_cons_of_mem _ (List.mem_append_left _ (List.mem_of_getElem? (i := 34) rfl))), (List.forall_mem_cons.mpr ⟨(List.mem_cons_of_mem _ (List.mem_append_left _ (List.mem_of_getElem? (i := 33) rfl))), (List.forall_mem_cons.mpr ⟨(List.mem_cons_of_mem _ (List.mem_append_left _ (List.mem_of_getElem? (i := 32) rfl))), (List.forall_mem_cons.mpr ⟨(List.mem_cons_of_mem _ (List.mem_append_left _ (List.mem_of_getElem? (i := 0) rfl))), (fun _ h => absurd h List.not_mem_nil)⟩)⟩)⟩)⟩) (kGV _ _ _ _) (kFam (List.mem_cons_of_mem _ (List.mem_append_left _ (List.mem_of_getElem? (i := 31) rfl)))) gw_s_sum10_2) rfl rfl rfl ⟨rfl, hd_X10_sum⟩ ⟨(Nat.le_of_ble_eq_true rfl), (Nat.le_of_ble_eq_true rfl)⟩) (kW_V kS2_blind (kS2_give hX hS hFc) (va_recv hKc hPc (ci := 10) (q0 := 0) rfl rfl) hPc hKc hDc) rfl rfl hl.1 rfl (lv_room (Nat.le_of_ble_eq_true rfl)) dX10_compares_53 ⟨(Nat.le_of_ble_eq_true rfl), (Nat.le_of_ble_eq_true rfl)⟩) hS (fun q _ h => hFc q h) hFc (fun r_17 u t H1 locs ht hvm hw hB hz1 hk1 hS => ?_)
      obtain ⟨a1_18, xf_19, xd_20⟩ := u
      obtain ⟨hP1, hK1, hD1⟩ := hB
      rw [ht] at hP1
      try dsimp only at hw
      obtain ⟨hP, hD⟩ : kPD dC dI A [(jM, kMo vs (.ref lt) (.ref tx) (.int (nI (be))) (.int (nI (en))) (.int (nI (a1_18))) (.int xf_19) (.int xd_20) (((v14 : Value) : Value) : Value) (((v15 : Value) : Value) : Value) (.ref q6) (.ref q7) (((v18 : Value) : Value) : Value)), (tx, .inl (cT, nT, .inl gT)), (lt, .inl (cE, 128, .inl gE))] H1 := kJoinI hP hD [0, 1, 2] rfl hk1 hFc hP1 hD1 rfl [some 0, some 1, some 2] rfl rfl
      generalize H1 = H at hP hS ⊢
      have hw_21 := hw
      have hw_21_a := hw_21.1
      refine lv_istore hx hb dX10_compares_56 hl (by decide) (kTo [(5, .int r_17), (4, .int r_9), (3, .int r_2), (0, .ref jM), (1, .int 0), (2, .int p1)]) (fun ls hl => ?_)
      refine lv_iload hx hb dX10_compares_58 (lv_at hl 1 rfl) ?_
      refine lv_bipush (v := 61) hx hb dX10_compares_60 (by decide) ?_
      refine lv_icmp_ne (tgt := 79) hx hb dX10_compares_62 (by decide) (fun c_22 => ?_) (fun c_22 => ?_)
      · refine lv_iload hx hb dX10_compares_79 (lv_at hl 1 rfl) ?_
        refine lv_bipush (v := 60) hx hb dX10_compares_81 (by decide) ?_
        refine lv_icmp_ne (tgt := 100) hx hb dX10_compares_83 (by decide) (fun c_23 => ?_) (fun c_23 => ?_)
        · refine lv_iload_n hx hb dX10_compares_100 rfl (lv_at hl 2 rfl) ?_
          refine lv_iload hx hb dX10_compares_101 (lv_at hl 0 rfl) ?_
          refine lv_icmp_le (tgt := 110) hx hb dX10_compares_103 (by decide) (fun c_24 => ?_) (fun c_24 => ?_)
          · refine lv_iconst (v := 0) hx hb dX10_compares_110 (by decide) ?_
            have hP9 := hP
            have hD9 := hD
            have hK9 := hK
            rw [hQ]
            exact W.zret (v := 0) hx hb hr rfl (fun t ht hW => ⟨⟨0, (a1_18, xf_19, xd_20), rfl, ⟨(Or.inl rfl), by omega, hw_21.2⟩,  by rw [ht]; exact hP9, va_K.moved hW.alike hK9, hD9⟩, hS.F ht⟩) hS.2.2 dX10_compares_111
          · refine lv_iconst (v := 1) hx hb dX10_compares_106 (by decide) ?_
            refine lv_goto (tgt := 111) hx hb dX10_compares_107 (by decide) ?_
            have hP9 := hP
            have hD9 := hD
            have hK9 := hK
            rw [hQ]
            exact W.zret (v := 1) hx hb hr rfl (fun t ht hW => ⟨⟨1, (a1_18, xf_19, xd_20), rfl, ⟨(Or.inr rfl), by omega, hw_21.2⟩,  by rw [ht]; exact hP9, va_K.moved hW.alike hK9, hD9⟩, hS.F ht⟩) hS.2.2 dX10_compares_111
        · have hns_25 := hw_11.1.resolve_left (fun z9 => absurd (c_23.symm.trans z9) (by decide))
          have hns_25_1 := hns_25.1
          refine lv_iload_n hx hb dX10_compares_86 rfl (lv_at hl 2 rfl) ?_
          refine lv_iload hx hb dX10_compares_87 (lv_at hl 0 rfl) ?_
          refine lv_icmp_ge (tgt := 96) hx hb dX10_compares_89 (by decide) (fun c_26 => ?_) (fun c_26 => ?_)
          · refine lv_iconst (v := 0) hx hb dX10_compares_96 (by decide) ?_
            refine lv_goto (tgt := 111) hx hb dX10_compares_97 (by decide) ?_
            have hP9 := hP
            have hD9 := hD
            have hK9 := hK
            rw [hQ]
            exact W.zret (v := 0) hx hb hr rfl (fun t ht hW => ⟨⟨0, (a1_18, xf_19, xd_20), rfl, ⟨(Or.inl rfl), by omega, hw_21.2⟩,  by rw [ht]; exact hP9, va_K.moved hW.alike hK9, hD9⟩, hS.F ht⟩) hS.2.2 dX10_compares_111
          · refine lv_iconst (v := 1) hx hb dX10_compares_92 (by decide) ?_
            refine lv_goto (tgt := 111) hx hb dX10_compares_93 (by decide) ?_
            have hP9 := hP
            have hD9 := hD
            have hK9 := hK
            rw [hQ]
            exact W.zret (v := 1) hx hb hr rfl (fun t ht hW => ⟨⟨1, (a1_18, xf_19, xd_20), rfl, ⟨(Or.inr rfl), by omega, hw_21.2⟩,  by rw [ht]; exact hP9, va_K.moved hW.alike hK9, hD9⟩, hS.F ht⟩) hS.2.2 dX10_compares_111
      · have hns_27 := hw_11.1.resolve_left (fun z9 => absurd (c_22.symm.trans z9) (by decide))
        have hns_27_1 := hns_27.1
        refine lv_iload_n hx hb dX10_compares_65 rfl (lv_at hl 2 rfl) ?_
        refine lv_iload hx hb dX10_compares_66 (lv_at hl 0 rfl) ?_
        refine lv_icmp_ne (tgt := 75) hx hb dX10_compares_68 (by decide) (fun c_28 => ?_) (fun c_28 => ?_)
        · refine lv_iconst (v := 0) hx hb dX10_compares_75 (by decide) ?_
          refine lv_goto (tgt := 111) hx hb dX10_compares_76 (by decide) ?_
          have hP9 := hP
          have hD9 := hD
          have hK9 := hK
          rw [hQ]
          exact W.zret (v := 0) hx hb hr rfl (fun t ht hW => ⟨⟨0, (a1_18, xf_19, xd_20), rfl, ⟨(Or.inl rfl), by omega, hw_21.2⟩,  by rw [ht]; exact hP9, va_K.moved hW.alike hK9, hD9⟩, hS.F ht⟩) hS.2.2 dX10_compares_111
        · refine lv_iconst (v := 1) hx hb dX10_compares_71 (by decide) ?_
          refine lv_goto (tgt := 111) hx hb dX10_compares_72 (by decide) ?_
          have hP9 := hP
          have hD9 := hD
          have hK9 := hK
          rw [hQ]
          exact W.zret (v := 1) hx hb hr rfl (fun t ht hW => ⟨⟨1, (a1_18, xf_19, xd_20), rfl, ⟨(Or.inr rfl), by omega, hw_21.2⟩,  by rw [ht]; exact hP9, va_K.moved hW.alike hK9, hD9⟩, hS.F ht⟩) hS.2.2 dX10_compares_111
    · refine lv_aload_n hx hb dX10_compares_37 rfl (lv_at hl 2 rfl) ?_
      obtain ⟨hPc, hDc, hFc⟩ := kCut (wc := [(jM, kMo vs (.ref lt) (.ref tx) (.int (nI (be))) (.int (nI (en))) (.int (nI (a1_10))) (.int (-1)) (.int 2) ((v14 : Value) : Value) ((v15 : Value) : Value) (.ref q6) (.ref q7) ((v18 : Value) : Value))]) hP hD hS hA [0] rfl (by decide) rfl
      have hKc := hK.sb (tys2 := []) [] rfl
      refine va_calli (va_runV (As := []) (rest := []) ⟨hx, hb, hml, hown, hts⟩ (s_fails10 l dC dI jM vs (.int 2 : Value) (((v14 : Value) : Value) : Value) (((v15 : Value) : Value) : Value) (((v18 : Value) : Value) : Value) lt q6 q7 tx be en a1_10 (by omega) (by omega) (-1) H.size) (cwV 0 hts (kG (List.forall_mem_cons.mpr ⟨(List.mem_cons_of_mem _ (List.mem_append_left _ (List.mem_of_getElem? (i := 16) rfl))), (List.forall_mem_cons.mpr ⟨(List.mem_cons_of_mem _ (List.mem_append_left _ (List.mem_of_getElem? (i := 15) rfl))), (List.forall_mem_cons.mpr ⟨(List.mem_cons_of_mem _ (List.mem_append_left _ (List.mem_of_getElem? (i := 14) rfl))), (List.forall_mem_cons.mpr ⟨(List.mem_cons_of_mem _ (List.mem_append_left _ (List.mem_of_getElem? (i := 0) rfl))), (fun _ h => absurd h List.not_mem_nil)⟩)⟩)⟩)⟩) (kGV _ _ _ _) (fun _ h => List.mem_cons_of_mem _ (List.mem_append_right _ (List.mem_append_right _ (List.mem_append_right _ (List.mem_append_right _ (List.mem_append_right _ (List.mem_append_left _ h))))))) gw_s_fails10) rfl rfl rfl ⟨rfl, hd_X10_fails⟩ ⟨(Nat.le_of_ble_eq_true rfl), (Nat.le_of_ble_eq_true rfl)⟩) (kW_V kT_blind kT_give (va_recv hKc hPc (ci := 10) (q0 := 0) rfl rfl) hPc hKc hDc) rfl rfl hl.1 rfl (lv_room (Nat.le_of_ble_eq_true rfl)) dX10_compares_38 ⟨(Nat.le_of_ble_eq_true rfl), (Nat.le_of_ble_eq_true rfl)⟩) hS (fun q _ h => hFc q h) hFc (fun r_29 u t H1 locs ht hvm hw hB hz1 hk1 hS => ?_)
      obtain ⟨xf_30, rfl⟩ : ∃ z, z = u := ⟨_, rfl⟩
      obtain ⟨hP1, hK1, hD1⟩ := hB
      rw [ht] at hP1
      try dsimp only at hw
      obtain ⟨hP, hD⟩ : kPD dC dI A [(jM, kMo vs (.ref lt) (.ref tx) (.int (nI (be))) (.int (nI (en))) (.int (nI (a1_10))) (.int xf_30) (.int 2) (((v14 : Value) : Value) : Value) (((v15 : Value) : Value) : Value) (.ref q6) (.ref q7) (((v18 : Value) : Value) : Value)), (tx, .inl (cT, nT, .inl gT)), (lt, .inl (cE, 128, .inl gE))] H1 := kJoinI hP hD [0] rfl hk1 hFc hP1 hD1 rfl [some 0, none, none] rfl rfl
      generalize H1 = H at hP hS ⊢
      obtain ⟨rfl, hw_31⟩ := hw
      have hP9 := hP
      have hD9 := hD
      have hK9 := hK
      rw [hQ]
      exact W.zret (v := 0) hx hb hr rfl (fun t ht hW => ⟨⟨0, (a1_10, xf_30, 2), rfl, ⟨(Or.inl rfl), by omega, (fun z9 => absurd z9 hw_31)⟩,  by rw [ht]; exact hP9, va_K.moved hW.alike hK9, hD9⟩, hS.F ht⟩) hS.2.2 dX10_compares_41
  · refine lv_iconst (v := 0) hx hb dX10_compares_21 (by decide) ?_
    have hP9 := hP
    have hD9 := hD
    have hK9 := hK
    rw [hQ]
    exact W.zret (v := 0) hx hb hr rfl (fun t ht hW => ⟨⟨0, (a1_3, xf_4, xd_5), rfl, ⟨(Or.inl rfl), by omega, hw_6.2⟩,  by rw [ht]; exact hP9, va_K.moved hW.alike hK9, hD9⟩, hS.F ht⟩) hS.2.2 dX10_compares_22

def w_s_comp10_2_1 : List Cond := .code yX10_compares cX10_compares 6 (some .boolean) :: wf_md
theorem gw_s_comp10_2_1 : (w_s_comp10_2_1).all goodWord = true := kFamG rfl gf_md
set_option maxHeartbeats 4000000 in
set_option maxRecDepth 100000 in
theorem s_comp10_2_1 (l : Launch) (dC : Nat → ClassId) (dI : Nat → Nat → Nat) (jM : Nat) (vs : Nat → Value) (v14 : Value) (v15 : Value) (v18 : Value) (lt : Nat) (q6 : Nat) (q7 : Nat) (tx : Nat) (cT : ClassId) (nT : Nat) (gT : Nat → Int32) (be : Nat) (en : Nat) (a : Nat) (hbe : be + en ≤ nT) (hnT : nT ≤ 1680) (ha : a ≤ en) (cE : ClassId) (gE : Nat → Int32) (b6 : Nat) (n6 : Nat) (g6 : Nat → Int32) (hn6 : n6 ≤ 8) (hg6 : ∀ k : Nat, ∃ v : Nat, v < 128 ∧ g6 k = nI v) (b7 : Nat) (n7 : Nat) (g7 : Nat → Int32) (hn7 : n7 ≤ 8) (hg7 : ∀ k : Nat, ∃ v : Nat, v < 128 ∧ g7 k = nI v) (p1 : Int32) (sz : Nat) : Met l yX10_compares w_s_comp10_2_1 ({ frames := 38, cells := 0, slots := 0, locals := 2280 }) (kW dC dI [.ref jM, .int 1, .int p1] [(jM, kMo vs (.ref lt) (.ref tx) (.int (nI (be))) (.int (nI (en))) (.int (nI (a))) (.int (-1)) (.int 2) v14 v15 (.ref q6) (.ref q7) v18), (tx, .inl (cT, nT, .inl gT)), (lt, .inl (cE, 128, .inl gE))] [(cT, .byte), (cE, .int)] (kS2 q6 b6 n6 g6 q7 b7 n7 g7 (va_A [(jM, kMo vs (.ref lt) (.ref tx) (.int (nI (be))) (.int (nI (en))) (.int (nI (a))) (.int (-1)) (.int 2) v14 v15 (.ref q6) (.ref q7) v18), (tx, .inl (cT, nT, .inl gT)), (lt, .inl (cE, 128, .inl gE))] sz)) sz) (va_Qi (fun (r : Int32) (u : Nat × Int32 × Int32) => match u with | (a1, xf, xd) => ((r = 0 ∨ r = 1) ∧ (a ≤ a1 ∧ a1 ≤ en) ∧ (xf = -1 → xd = 2))) (fun (u : Nat × Int32 × Int32) => match u with | (a1, xf, xd) => fun t : State => kB dC dI [(jM, kMo vs (.ref lt) (.ref tx) (.int (nI (be))) (.int (nI (en))) (.int (nI (a1))) (.int xf) (.int xd) v14 v15 (.ref q6) (.ref q7) v18), (tx, .inl (cT, nT, .inl gT)), (lt, .inl (cE, 128, .inl gE))] [(cT, .byte), (cE, .int)] (va_A [(jM, kMo vs (.ref lt) (.ref tx) (.int (nI (be))) (.int (nI (en))) (.int (nI (a))) (.int (-1)) (.int 2) v14 v15 (.ref q6) (.ref q7) v18), (tx, .inl (cT, nT, .inl gT)), (lt, .inl (cE, 128, .inl gE))] sz) t) (va_A [(jM, kMo vs (.ref lt) (.ref tx) (.int (nI (be))) (.int (nI (en))) (.int (nI (a))) (.int (-1)) (.int 2) v14 v15 (.ref q6) (.ref q7) v18), (tx, .inl (cT, nT, .inl gT)), (lt, .inl (cE, 128, .inl gE))] sz)) 0 0 (va_A [(jM, kMo vs (.ref lt) (.ref tx) (.int (nI (be))) (.int (nI (en))) (.int (nI (a))) (.int (-1)) (.int 2) v14 v15 (.ref q6) (.ref q7) v18), (tx, .inl (cT, nT, .inl gT)), (lt, .inl (cE, 128, .inl gE))] sz) := by
  refine Met.ofW (cc := cX10_compares) (maxL := 6) (ret := (some .boolean)) (by decide) rfl ?_
  intro p e s m args below meth c s₁ B hml hv
  obtain ⟨rfl, hsz, hP, hK, hD0, hX⟩ := hv
  have hx := B.exec
  have hb := B.bytes
  have hr := B.returns
  have hts := atoms_spec (ws := w_s_comp10_2_1) B.pre
  have hown : s.vm.findClass RX10 = some m.cls := findClass_of_methodNamed B.named
  have hlocks := B.notSynchronized
  subst hsz
  have hD := hD0.self (sz := s.heap.size)
  generalize hAe : va_A [(jM, kMo vs (.ref lt) (.ref tx) (.int (nI (be))) (.int (nI (en))) (.int (nI (a))) (.int (-1)) (.int 2) v14 v15 (.ref q6) (.ref q7) v18), (tx, .inl (cT, nT, .inl gT)), (lt, .inl (cE, 128, .inl gE))] s.heap.size = A at hD hX ⊢
  have hA : ∀ q : Nat, s.heap.size ≤ q → A q := fun q h => by rw [← hAe]; exact Or.inr h
  have hS : va_S A s.heap s.heap [] := va_S.rf
  have hP : va_P (dC, dI) vwCl [(jM, kMo vs (.ref lt) (.ref tx) (.int (nI (be))) (.int (nI (en))) (.int (nI (a))) (.int (-1)) (.int 2) v14 v15 (.ref q6) (.ref q7) v18), (tx, .inl (cT, nT, .inl gT)), (lt, .inl (cE, 128, .inl gE))] s.heap := hP
  have hl := lv_entry ([.ref jM, .int 1, .int p1]) (n := 6) (Nat.le_of_ble_eq_true rfl)
  rw [lg_entry_eq]
  generalize (lg_sl ([.ref jM, .int 1, .int p1]) ++ List.replicate (6 - (lg_sl ([.ref jM, .int 1, .int p1])).length) Slot.unset).toArray = ls at hl ⊢
  have hl : lv_has ls 6 [(0, .ref jM), (1, .int 1), (2, .int p1)] := hl
  refine kQ (fun Q hQ => ?_)
  refine lv_iload_n hx hb dX10_compares_0 rfl (lv_at hl 1 rfl) ?_
  refine lv_if_eq (tgt := 8) hx hb dX10_compares_1 (by decide) (fun c_1 => absurd c_1 (by decide)) (fun c_1 => ?_)
  refine lv_iload_n hx hb dX10_compares_4 rfl (lv_at hl 2 rfl) ?_
  refine lv_goto (tgt := 12) hx hb dX10_compares_5 (by decide) ?_
  refine lv_istore_n hx hb dX10_compares_12 rfl hl (by decide) (kTo [(3, .int p1), (0, .ref jM), (1, .int 1), (2, .int p1)]) (fun ls hl => ?_)
  refine lv_aload_n hx hb dX10_compares_13 rfl (lv_at hl 1 rfl) ?_
  refine va_get (D := (dC, dI)) (ci := 10) (v := .int (-1)) (C := RX10) (T := TX10) (N := 52) hx hb hts (fun _ h => List.mem_cons_of_mem _ (List.mem_append_right _ (List.mem_append_right _ (List.mem_append_left _ h)))) hown hK hP 0 rfl rfl 12 (by decide) (hts (.fieldLink RX10 150 "NotEndedModel" "fault" "I") (List.mem_cons_of_mem _ (List.mem_append_left _ (List.mem_of_getElem? (i := 10) rfl)))) (fun _ h9 => h9) rfl dX10_compares_14 ?_
  refine lv_iconst (v := (-1)) hx hb dX10_compares_17 (by decide) ?_
  refine lv_icmp_eq (tgt := 23) hx hb dX10_compares_18 (by decide) (fun c_2 => ?_) (fun c_2 => absurd (by decide) c_2)
  refine lv_aload_n hx hb dX10_compares_23 rfl (lv_at hl 1 rfl) ?_
  obtain ⟨hPc, hDc, hFc⟩ := kCut (wc := [(jM, kMo vs (.ref lt) (.ref tx) (.int (nI (be))) (.int (nI (en))) (.int (nI (a))) (.int (-1)) (.int 2) v14 v15 (.ref q6) (.ref q7) v18), (tx, .inl (cT, nT, .inl gT))]) hP hD hS hA [0, 1] rfl (by decide) rfl
  have hKc := hK.sb (tys2 := [(cT, .byte)]) [0] rfl
  refine va_calli (va_runV (As := []) (rest := []) ⟨hx, hb, hml, hown, hts⟩ (s_look10 l dC dI jM vs (.int (-1) : Value) (.int 2 : Value) (v14 : Value) (v15 : Value) (v18 : Value) lt q6 q7 tx cT nT gT be en a (by omega) (by omega) (by omega) s.heap.size) (cwV 0 hts (kG (List.forall_mem_cons.mpr ⟨(List.mem_cons_of_mem _ (List.mem_append_left _ (List.mem_of_getElem? (i := 3) rfl))), (List.forall_mem_cons.mpr ⟨(List.mem_cons_of_mem _ (List.mem_append_left _ (List.mem_of_getElem? (i := 2) rfl))), (List.forall_mem_cons.mpr ⟨(List.mem_cons_of_mem _ (List.mem_append_left _ (List.mem_of_getElem? (i := 1) rfl))), (List.forall_mem_cons.mpr ⟨(List.mem_cons_of_mem _ (List.mem_append_left _ (List.mem_of_getElem? (i := 0) rfl))), (fun _ h => absurd h List.not_mem_nil)⟩)⟩)⟩)⟩) (kGV _ _ _ _) (fun _ h => List.mem_cons_of_mem _ (List.mem_append_right _ (List.mem_append_left _ h))) gw_s_look10) rfl rfl rfl ⟨rfl, hd_X10_look⟩ ⟨(Nat.le_of_ble_eq_true rfl), (Nat.le_of_ble_eq_true rfl)⟩) (kW_V kT_blind kT_give (va_recv hKc hPc (ci := 10) (q0 := 0) rfl rfl) hPc hKc hDc) rfl rfl hl.1 rfl (lv_room (Nat.le_of_ble_eq_true rfl)) dX10_compares_24 ⟨(Nat.le_of_ble_eq_true rfl), (Nat.le_of_ble_eq_true rfl)⟩) hS (fun q _ h => hFc q h) hFc (fun r_3 u t H1 locs ht hvm hw hB hz1 hk1 hS => ?_)
  obtain ⟨a1_4, rfl⟩ : ∃ z, z = u := ⟨_, rfl⟩
  obtain ⟨hP1, hK1, hD1⟩ := hB
  rw [ht] at hP1
  try dsimp only at hw
  obtain ⟨hP, hD⟩ : kPD dC dI A [(jM, kMo vs (.ref lt) (.ref tx) (.int (nI (be))) (.int (nI (en))) (.int (nI (a1_4))) (.int (-1)) (.int 2) (v14 : Value) (v15 : Value) (.ref q6) (.ref q7) (v18 : Value)), (tx, .inl (cT, nT, .inl gT)), (lt, .inl (cE, 128, .inl gE))] H1 := kJoinI hP hD [0, 1] rfl hk1 hFc hP1 hD1 rfl [some 0, some 1, none] rfl rfl
  generalize H1 = H at hP hS ⊢
  have hw_5 := hw
  have hw_5_3 := hw_5.2.1
  refine lv_istore hx hb dX10_compares_27 hl (by decide) (kTo [(4, .int r_3), (3, .int p1), (0, .ref jM), (1, .int 1), (2, .int p1)]) (fun ls hl => ?_)
  refine lv_iload hx hb dX10_compares_29 (lv_at hl 0 rfl) ?_
  have hPc := hP.sb (ws2 := []) [] rfl
  have hKc := hK.sb (tys2 := []) [] rfl
  refine vp_callSi (va_runS (As := [.int r_3]) (rest := []) ⟨hx, hb, hml, hown, hts⟩ (s_isSign10 l dC dI r_3) (va_cwS 1 hts (kG (List.forall_mem_cons.mpr ⟨(List.mem_cons_of_mem _ (List.mem_append_left _ (List.mem_of_getElem? (i := 36) rfl))), (List.forall_mem_cons.mpr ⟨(List.mem_cons_of_mem _ (List.mem_append_left _ (List.mem_of_getElem? (i := 35) rfl))), (List.forall_mem_cons.mpr ⟨(List.mem_cons_of_mem _ (List.mem_append_left _ (List.mem_of_getElem? (i := 0) rfl))), (fun _ h => absurd h List.not_mem_nil)⟩)⟩)⟩) (kGS _ _ _) (fun _ h => List.mem_cons_of_mem _ (List.mem_append_right _ (List.mem_append_right _ (List.mem_append_right _ (List.mem_append_right _ (List.mem_append_right _ (List.mem_append_right _ (List.mem_append_right _ (List.mem_append_right _ (List.mem_append_left _ h)))))))))) gw_s_isSign10) rfl rfl rfl hd_X10_isSign ⟨(Nat.le_of_ble_eq_true rfl), (Nat.le_of_ble_eq_true rfl)⟩) (kR_S kT_blind kT_give hPc hKc) rfl rfl hl.1 rfl (lv_room (Nat.le_of_ble_eq_true rfl)) dX10_compares_31 ⟨(Nat.le_of_ble_eq_true rfl), (Nat.le_of_ble_eq_true rfl)⟩).run (fun r_6 hw => ?_)
  have hw_7 := hw
  refine lv_if_ne (tgt := 42) hx hb dX10_compares_34 (by decide) (fun c_8 => ?_) (fun c_8 => ?_)
  · have hns_9 := hw_5.1.resolve_left (hw_7 c_8)
    have hns_9_1 := hns_9.1
    refine lv_aload_n hx hb dX10_compares_42 rfl (lv_at hl 2 rfl) ?_
    refine lv_dup hx hb dX10_compares_43 rfl ?_
    refine va_get (D := (dC, dI)) (ci := 10) (v := .int (nI (a1_4))) (C := RX10) (T := TX10) (N := 52) hx hb hts (fun _ h => List.mem_cons_of_mem _ (List.mem_append_right _ (List.mem_append_right _ (List.mem_append_left _ h)))) hown hK hP 0 rfl rfl 11 (by decide) (hts (.fieldLink RX10 141 "NotEndedModel" "at" "I") (List.mem_cons_of_mem _ (List.mem_append_left _ (List.mem_of_getElem? (i := 13) rfl)))) (fun _ h9 => h9) rfl dX10_compares_44 ?_
    refine lv_iconst (v := 1) hx hb dX10_compares_47 (by decide) ?_
    refine lv_iadd hx hb dX10_compares_48 ?_
    refine lv_topi (fun y_10 ey_10 => ?_)
    obtain rfl : y_10 = nI (a1_4 + 1) := ey_10.trans (nI_add (a1_4) (1))
    refine va_put (D := (dC, dI)) (ci := 10) (v := .int (nI (a1_4 + 1))) (ty := tyX10 11) (C := RX10) (T := TX10) (N := 52) hx hb hts (fun _ h => List.mem_cons_of_mem _ (List.mem_append_right _ (List.mem_append_right _ (List.mem_append_left _ h)))) tyX10 tyX10_ok nmX10 hown hK hP hD hS 0 rfl rfl 11 (by decide) (hts (.fieldLink RX10 141 "NotEndedModel" "at" "I") (List.mem_cons_of_mem _ (List.mem_append_left _ (List.mem_of_getElem? (i := 13) rfl)))) (fun _ h9 => h9) rfl (tyX10_ok 11 (by decide)) rfl rfl (Nat.le_of_ble_eq_true rfl) dX10_compares_49 (fun H locs hP hD hS => ?_)
    obtain ⟨hP, hD⟩ : kPD dC dI A [(jM, kMo vs (.ref lt) (.ref tx) (.int (nI (be))) (.int (nI (en))) (.int (nI (a1_4 + 1))) (.int (-1)) (.int 2) (v14 : Value) (v15 : Value) (.ref q6) (.ref q7) (v18 : Value)), (tx, .inl (cT, nT, .inl gT)), (lt, .inl (cE, 128, .inl gE))] H := ⟨hP, hD⟩
    refine lv_aload_n hx hb dX10_compares_52 rfl (lv_at hl 2 rfl) ?_
    obtain ⟨hPc, hDc, hFc⟩ := kCut (wc := [(jM, kMo vs (.ref lt) (.ref tx) (.int (nI (be))) (.int (nI (en))) (.int (nI (a1_4 + 1))) (.int (-1)) (.int 2) (v14 : Value) (v15 : Value) (.ref q6) (.ref q7) (v18 : Value)), (tx, .inl (cT, nT, .inl gT)), (lt, .inl (cE, 128, .inl gE))]) hP hD hS hA [0, 1, 2] rfl (by decide) rfl
    have hKc := hK.sb (tys2 := [(cT, .byte), (cE, .int)]) [0, 1] rfl
    refine va_calli (va_runV (As := []) (rest := []) ⟨hx, hb, hml, hown, hts⟩ (s_sum10_2 l dC dI jM vs ((v14 : Value) : Value) ((v15 : Value) : Value) ((v18 : Value) : Value) lt q6 q7 tx cT nT gT be en (a1_4 + 1) (by omega) (by omega) (by omega) cE gE b6 n6 g6 hn6 hg6 b7 n7 g7 hn7 hg7 H.size) (cwV 0 hts (kG (List.forall_mem_cons.mpr ⟨(List.mem_cons_of_mem _ (List.mem_append_left _ (List.mem_of_getElem? (i := 34) rfl))), (List.forall_mem_cons.mpr ⟨(List.mem_cons_of_mem _ (List.mem_append_left _ (List.mem_of_getElem? (i := 33) rfl))), (List.forall_mem_cons.mpr ⟨(List.mem_cons_of_mem _ (List.mem_append_left _ (List.mem_of_getElem? (i := 32) rfl))), (List.forall_mem_cons.mpr ⟨(List.mem_cons_of_mem _ (List.mem_append_left _ (List.mem_of_getElem? (i := 0) rfl))), (fun _ h => absurd h List.not_mem_nil)⟩)⟩)⟩)⟩) (kGV _ _ _ _) (kFam (List.mem_cons_of_mem _ (List.mem_append_left _ (List.mem_of_getElem? (i := 31) rfl)))) gw_s_sum10_2) rfl rfl rfl ⟨rfl, hd_X10_sum⟩ ⟨(Nat.le_of_ble_eq_true rfl), (Nat.le_of_ble_eq_true rfl)⟩) (kW_V kS2_blind (kS2_give hX hS hFc) (va_recv hKc hPc (ci := 10) (q0 := 0) rfl rfl) hPc hKc hDc) rfl rfl hl.1 rfl (lv_room (Nat.le_of_ble_eq_true rfl)) dX10_compares_53 ⟨(Nat.le_of_ble_eq_true rfl), (Nat.le_of_ble_eq_true rfl)⟩) hS (fun q _ h => hFc q h) hFc (fun r_11 u t H1 locs ht hvm hw hB hz1 hk1 hS => ?_)
    obtain ⟨a1_12, xf_13, xd_14⟩ := u
    obtain ⟨hP1, hK1, hD1⟩ := hB
    rw [ht] at hP1
    try dsimp only at hw
    obtain ⟨hP, hD⟩ : kPD dC dI A [(jM, kMo vs (.ref lt) (.ref tx) (.int (nI (be))) (.int (nI (en))) (.int (nI (a1_12))) (.int xf_13) (.int xd_14) ((v14 : Value) : Value) ((v15 : Value) : Value) (.ref q6) (.ref q7) ((v18 : Value) : Value)), (tx, .inl (cT, nT, .inl gT)), (lt, .inl (cE, 128, .inl gE))] H1 := kJoinI hP hD [0, 1, 2] rfl hk1 hFc hP1 hD1 rfl [some 0, some 1, some 2] rfl rfl
    generalize H1 = H at hP hS ⊢
    have hw_15 := hw
    have hw_15_a := hw_15.1
    refine lv_istore hx hb dX10_compares_56 hl (by decide) (kTo [(5, .int r_11), (4, .int r_3), (3, .int p1), (0, .ref jM), (1, .int 1), (2, .int p1)]) (fun ls hl => ?_)
    refine lv_iload hx hb dX10_compares_58 (lv_at hl 1 rfl) ?_
    refine lv_bipush (v := 61) hx hb dX10_compares_60 (by decide) ?_
    refine lv_icmp_ne (tgt := 79) hx hb dX10_compares_62 (by decide) (fun c_16 => ?_) (fun c_16 => ?_)
    · refine lv_iload hx hb dX10_compares_79 (lv_at hl 1 rfl) ?_
      refine lv_bipush (v := 60) hx hb dX10_compares_81 (by decide) ?_
      refine lv_icmp_ne (tgt := 100) hx hb dX10_compares_83 (by decide) (fun c_17 => ?_) (fun c_17 => ?_)
      · refine lv_iload_n hx hb dX10_compares_100 rfl (lv_at hl 2 rfl) ?_
        refine lv_iload hx hb dX10_compares_101 (lv_at hl 0 rfl) ?_
        refine lv_icmp_le (tgt := 110) hx hb dX10_compares_103 (by decide) (fun c_18 => ?_) (fun c_18 => ?_)
        · refine lv_iconst (v := 0) hx hb dX10_compares_110 (by decide) ?_
          have hP9 := hP
          have hD9 := hD
          have hK9 := hK
          rw [hQ]
          exact W.zret (v := 0) hx hb hr rfl (fun t ht hW => ⟨⟨0, (a1_12, xf_13, xd_14), rfl, ⟨(Or.inl rfl), by omega, hw_15.2⟩,  by rw [ht]; exact hP9, va_K.moved hW.alike hK9, hD9⟩, hS.F ht⟩) hS.2.2 dX10_compares_111
        · refine lv_iconst (v := 1) hx hb dX10_compares_106 (by decide) ?_
          refine lv_goto (tgt := 111) hx hb dX10_compares_107 (by decide) ?_
          have hP9 := hP
          have hD9 := hD
          have hK9 := hK
          rw [hQ]
          exact W.zret (v := 1) hx hb hr rfl (fun t ht hW => ⟨⟨1, (a1_12, xf_13, xd_14), rfl, ⟨(Or.inr rfl), by omega, hw_15.2⟩,  by rw [ht]; exact hP9, va_K.moved hW.alike hK9, hD9⟩, hS.F ht⟩) hS.2.2 dX10_compares_111
      · have hns_19 := hw_5.1.resolve_left (fun z9 => absurd (c_17.symm.trans z9) (by decide))
        have hns_19_1 := hns_19.1
        refine lv_iload_n hx hb dX10_compares_86 rfl (lv_at hl 2 rfl) ?_
        refine lv_iload hx hb dX10_compares_87 (lv_at hl 0 rfl) ?_
        refine lv_icmp_ge (tgt := 96) hx hb dX10_compares_89 (by decide) (fun c_20 => ?_) (fun c_20 => ?_)
        · refine lv_iconst (v := 0) hx hb dX10_compares_96 (by decide) ?_
          refine lv_goto (tgt := 111) hx hb dX10_compares_97 (by decide) ?_
          have hP9 := hP
          have hD9 := hD
          have hK9 := hK
          rw [hQ]
          exact W.zret (v := 0) hx hb hr rfl (fun t ht hW => ⟨⟨0, (a1_12, xf_13, xd_14), rfl, ⟨(Or.inl rfl), by omega, hw_15.2⟩,  by rw [ht]; exact hP9, va_K.moved hW.alike hK9, hD9⟩, hS.F ht⟩) hS.2.2 dX10_compares_111
        · refine lv_iconst (v := 1) hx hb dX10_compares_92 (by decide) ?_
          refine lv_goto (tgt := 111) hx hb dX10_compares_93 (by decide) ?_
          have hP9 := hP
          have hD9 := hD
          have hK9 := hK
          rw [hQ]
          exact W.zret (v := 1) hx hb hr rfl (fun t ht hW => ⟨⟨1, (a1_12, xf_13, xd_14), rfl, ⟨(Or.inr rfl), by omega, hw_15.2⟩,  by rw [ht]; exact hP9, va_K.moved hW.alike hK9, hD9⟩, hS.F ht⟩) hS.2.2 dX10_compares_111
    · have hns_21 := hw_5.1.resolve_left (fun z9 => absurd (c_16.symm.trans z9) (by decide))
      have hns_21_1 := hns_21.1
      refine lv_iload_n hx hb dX10_compares_65 rfl (lv_at hl 2 rfl) ?_
      refine lv_iload hx hb dX10_compares_66 (lv_at hl 0 rfl) ?_
      refine lv_icmp_ne (tgt := 75) hx hb dX10_compares_68 (by decide) (fun c_22 => ?_) (fun c_22 => ?_)
      · refine lv_iconst (v := 0) hx hb dX10_compares_75 (by decide) ?_
        refine lv_goto (tgt := 111) hx hb dX10_compares_76 (by decide) ?_
        have hP9 := hP
        have hD9 := hD
        have hK9 := hK
        rw [hQ]
        exact W.zret (v := 0) hx hb hr rfl (fun t ht hW => ⟨⟨0, (a1_12, xf_13, xd_14), rfl, ⟨(Or.inl rfl), by omega, hw_15.2⟩,  by rw [ht]; exact hP9, va_K.moved hW.alike hK9, hD9⟩, hS.F ht⟩) hS.2.2 dX10_compares_111
      · refine lv_iconst (v := 1) hx hb dX10_compares_71 (by decide) ?_
        refine lv_goto (tgt := 111) hx hb dX10_compares_72 (by decide) ?_
        have hP9 := hP
        have hD9 := hD
        have hK9 := hK
        rw [hQ]
        exact W.zret (v := 1) hx hb hr rfl (fun t ht hW => ⟨⟨1, (a1_12, xf_13, xd_14), rfl, ⟨(Or.inr rfl), by omega, hw_15.2⟩,  by rw [ht]; exact hP9, va_K.moved hW.alike hK9, hD9⟩, hS.F ht⟩) hS.2.2 dX10_compares_111
  · refine lv_aload_n hx hb dX10_compares_37 rfl (lv_at hl 2 rfl) ?_
    obtain ⟨hPc, hDc, hFc⟩ := kCut (wc := [(jM, kMo vs (.ref lt) (.ref tx) (.int (nI (be))) (.int (nI (en))) (.int (nI (a1_4))) (.int (-1)) (.int 2) (v14 : Value) (v15 : Value) (.ref q6) (.ref q7) (v18 : Value))]) hP hD hS hA [0] rfl (by decide) rfl
    have hKc := hK.sb (tys2 := []) [] rfl
    refine va_calli (va_runV (As := []) (rest := []) ⟨hx, hb, hml, hown, hts⟩ (s_fails10 l dC dI jM vs (.int 2 : Value) ((v14 : Value) : Value) ((v15 : Value) : Value) ((v18 : Value) : Value) lt q6 q7 tx be en a1_4 (by omega) (by omega) (-1) H.size) (cwV 0 hts (kG (List.forall_mem_cons.mpr ⟨(List.mem_cons_of_mem _ (List.mem_append_left _ (List.mem_of_getElem? (i := 16) rfl))), (List.forall_mem_cons.mpr ⟨(List.mem_cons_of_mem _ (List.mem_append_left _ (List.mem_of_getElem? (i := 15) rfl))), (List.forall_mem_cons.mpr ⟨(List.mem_cons_of_mem _ (List.mem_append_left _ (List.mem_of_getElem? (i := 14) rfl))), (List.forall_mem_cons.mpr ⟨(List.mem_cons_of_mem _ (List.mem_append_left _ (List.mem_of_getElem? (i := 0) rfl))), (fun _ h => absurd h List.not_mem_nil)⟩)⟩)⟩)⟩) (kGV _ _ _ _) (fun _ h => List.mem_cons_of_mem _ (List.mem_append_right _ (List.mem_append_right _ (List.mem_append_right _ (List.mem_append_right _ (List.mem_append_right _ (List.mem_append_left _ h))))))) gw_s_fails10) rfl rfl rfl ⟨rfl, hd_X10_fails⟩ ⟨(Nat.le_of_ble_eq_true rfl), (Nat.le_of_ble_eq_true rfl)⟩) (kW_V kT_blind kT_give (va_recv hKc hPc (ci := 10) (q0 := 0) rfl rfl) hPc hKc hDc) rfl rfl hl.1 rfl (lv_room (Nat.le_of_ble_eq_true rfl)) dX10_compares_38 ⟨(Nat.le_of_ble_eq_true rfl), (Nat.le_of_ble_eq_true rfl)⟩) hS (fun q _ h => hFc q h) hFc (fun r_23 u t H1 locs ht hvm hw hB hz1 hk1 hS => ?_)
    obtain ⟨xf_24, rfl⟩ : ∃ z, z = u := ⟨_, rfl⟩
    obtain ⟨hP1, hK1, hD1⟩ := hB
    rw [ht] at hP1
    try dsimp only at hw
    obtain ⟨hP, hD⟩ : kPD dC dI A [(jM, kMo vs (.ref lt) (.ref tx) (.int (nI (be))) (.int (nI (en))) (.int (nI (a1_4))) (.int xf_24) (.int 2) ((v14 : Value) : Value) ((v15 : Value) : Value) (.ref q6) (.ref q7) ((v18 : Value) : Value)), (tx, .inl (cT, nT, .inl gT)), (lt, .inl (cE, 128, .inl gE))] H1 := kJoinI hP hD [0] rfl hk1 hFc hP1 hD1 rfl [some 0, none, none] rfl rfl
    generalize H1 = H at hP hS ⊢
    obtain ⟨rfl, hw_25⟩ := hw
    have hP9 := hP
    have hD9 := hD
    have hK9 := hK
    rw [hQ]
    exact W.zret (v := 0) hx hb hr rfl (fun t ht hW => ⟨⟨0, (a1_4, xf_24, 2), rfl, ⟨(Or.inl rfl), by omega, (fun z9 => absurd z9 hw_25)⟩,  by rw [ht]; exact hP9, va_K.moved hW.alike hK9, hD9⟩, hS.F ht⟩) hS.2.2 dX10_compares_41

def w_s_unit10_2 : List Cond := .code yX10_unit cX10_unit 3 (some .boolean) :: wf_md
theorem gw_s_unit10_2 : (w_s_unit10_2).all goodWord = true := kFamG rfl gf_md
set_option maxHeartbeats 4000000 in
set_option maxRecDepth 100000 in
theorem s_unit10_2 (l : Launch) (dC : Nat → ClassId) (dI : Nat → Nat → Nat) (jM : Nat) (vs : Nat → Value) (v14 : Value) (v15 : Value) (v18 : Value) (lt : Nat) (q6 : Nat) (q7 : Nat) (tx : Nat) (cT : ClassId) (nT : Nat) (gT : Nat → Int32) (be : Nat) (en : Nat) (a : Nat) (hbe : be + en ≤ nT) (hnT : nT ≤ 1680) (ha : a ≤ en) (cE : ClassId) (gE : Nat → Int32) (b6 : Nat) (n6 : Nat) (g6 : Nat → Int32) (hn6 : n6 ≤ 8) (hg6 : ∀ k : Nat, ∃ v : Nat, v < 128 ∧ g6 k = nI v) (b7 : Nat) (n7 : Nat) (g7 : Nat → Int32) (hn7 : n7 ≤ 8) (hg7 : ∀ k : Nat, ∃ v : Nat, v < 128 ∧ g7 k = nI v) (sz : Nat) : Met l yX10_unit w_s_unit10_2 ({ frames := 39, cells := 0, slots := 0, locals := 2340 }) (kW dC dI [.ref jM] [(jM, kMo vs (.ref lt) (.ref tx) (.int (nI (be))) (.int (nI (en))) (.int (nI (a))) (.int (-1)) (.int 2) v14 v15 (.ref q6) (.ref q7) v18), (tx, .inl (cT, nT, .inl gT)), (lt, .inl (cE, 128, .inl gE))] [(cT, .byte), (cE, .int)] (kS2 q6 b6 n6 g6 q7 b7 n7 g7 (va_A [(jM, kMo vs (.ref lt) (.ref tx) (.int (nI (be))) (.int (nI (en))) (.int (nI (a))) (.int (-1)) (.int 2) v14 v15 (.ref q6) (.ref q7) v18), (tx, .inl (cT, nT, .inl gT)), (lt, .inl (cE, 128, .inl gE))] sz)) sz) (va_Qi (fun (r : Int32) (u : Nat × Int32 × Int32) => match u with | (a1, xf, xd) => ((r = 0 ∨ r = 1) ∧ (a ≤ a1 ∧ a1 ≤ en) ∧ (xf = -1 → xd = 2))) (fun (u : Nat × Int32 × Int32) => match u with | (a1, xf, xd) => fun t : State => kB dC dI [(jM, kMo vs (.ref lt) (.ref tx) (.int (nI (be))) (.int (nI (en))) (.int (nI (a1))) (.int xf) (.int xd) v14 v15 (.ref q6) (.ref q7) v18), (tx, .inl (cT, nT, .inl gT)), (lt, .inl (cE, 128, .inl gE))] [(cT, .byte), (cE, .int)] (va_A [(jM, kMo vs (.ref lt) (.ref tx) (.int (nI (be))) (.int (nI (en))) (.int (nI (a))) (.int (-1)) (.int 2) v14 v15 (.ref q6) (.ref q7) v18), (tx, .inl (cT, nT, .inl gT)), (lt, .inl (cE, 128, .inl gE))] sz) t) (va_A [(jM, kMo vs (.ref lt) (.ref tx) (.int (nI (be))) (.int (nI (en))) (.int (nI (a))) (.int (-1)) (.int 2) v14 v15 (.ref q6) (.ref q7) v18), (tx, .inl (cT, nT, .inl gT)), (lt, .inl (cE, 128, .inl gE))] sz)) 0 0 (va_A [(jM, kMo vs (.ref lt) (.ref tx) (.int (nI (be))) (.int (nI (en))) (.int (nI (a))) (.int (-1)) (.int 2) v14 v15 (.ref q6) (.ref q7) v18), (tx, .inl (cT, nT, .inl gT)), (lt, .inl (cE, 128, .inl gE))] sz) := by
  refine Met.ofW (cc := cX10_unit) (maxL := 3) (ret := (some .boolean)) (by decide) rfl ?_
  intro p e s m args below meth c s₁ B hml hv
  obtain ⟨rfl, hsz, hP, hK, hD0, hX⟩ := hv
  have hx := B.exec
  have hb := B.bytes
  have hr := B.returns
  have hts := atoms_spec (ws := w_s_unit10_2) B.pre
  have hown : s.vm.findClass RX10 = some m.cls := findClass_of_methodNamed B.named
  have hlocks := B.notSynchronized
  subst hsz
  have hD := hD0.self (sz := s.heap.size)
  generalize hAe : va_A [(jM, kMo vs (.ref lt) (.ref tx) (.int (nI (be))) (.int (nI (en))) (.int (nI (a))) (.int (-1)) (.int 2) v14 v15 (.ref q6) (.ref q7) v18), (tx, .inl (cT, nT, .inl gT)), (lt, .inl (cE, 128, .inl gE))] s.heap.size = A at hD hX ⊢
  have hA : ∀ q : Nat, s.heap.size ≤ q → A q := fun q h => by rw [← hAe]; exact Or.inr h
  have hS : va_S A s.heap s.heap [] := va_S.rf
  have hP : va_P (dC, dI) vwCl [(jM, kMo vs (.ref lt) (.ref tx) (.int (nI (be))) (.int (nI (en))) (.int (nI (a))) (.int (-1)) (.int 2) v14 v15 (.ref q6) (.ref q7) v18), (tx, .inl (cT, nT, .inl gT)), (lt, .inl (cE, 128, .inl gE))] s.heap := hP
  have hl := lv_entry ([.ref jM]) (n := 3) (Nat.le_of_ble_eq_true rfl)
  rw [lg_entry_eq]
  generalize (lg_sl ([.ref jM]) ++ List.replicate (3 - (lg_sl ([.ref jM])).length) Slot.unset).toArray = ls at hl ⊢
  have hl : lv_has ls 3 [(0, .ref jM)] := hl
  refine kQ (fun Q hQ => ?_)
  refine lv_aload_n hx hb dX10_unit_0 rfl (lv_at hl 0 rfl) ?_
  obtain ⟨hPc, hDc, hFc⟩ := kCut (wc := [(jM, kMo vs (.ref lt) (.ref tx) (.int (nI (be))) (.int (nI (en))) (.int (nI (a))) (.int (-1)) (.int 2) v14 v15 (.ref q6) (.ref q7) v18), (tx, .inl (cT, nT, .inl gT))]) hP hD hS hA [0, 1] rfl (by decide) rfl
  have hKc := hK.sb (tys2 := [(cT, .byte)]) [0] rfl
  refine va_calli (va_runV (As := []) (rest := []) ⟨hx, hb, hml, hown, hts⟩ (s_look10 l dC dI jM vs (.int (-1) : Value) (.int 2 : Value) (v14 : Value) (v15 : Value) (v18 : Value) lt q6 q7 tx cT nT gT be en a (by omega) (by omega) (by omega) s.heap.size) (cwV 0 hts (kG (List.forall_mem_cons.mpr ⟨(List.mem_cons_of_mem _ (List.mem_append_left _ (List.mem_of_getElem? (i := 3) rfl))), (List.forall_mem_cons.mpr ⟨(List.mem_cons_of_mem _ (List.mem_append_left _ (List.mem_of_getElem? (i := 2) rfl))), (List.forall_mem_cons.mpr ⟨(List.mem_cons_of_mem _ (List.mem_append_left _ (List.mem_of_getElem? (i := 1) rfl))), (List.forall_mem_cons.mpr ⟨(List.mem_cons_of_mem _ (List.mem_append_left _ (List.mem_of_getElem? (i := 0) rfl))), (fun _ h => absurd h List.not_mem_nil)⟩)⟩)⟩)⟩) (kGV _ _ _ _) (fun _ h => List.mem_cons_of_mem _ (List.mem_append_right _ (List.mem_append_left _ h))) gw_s_look10) rfl rfl rfl ⟨rfl, hd_X10_look⟩ ⟨(Nat.le_of_ble_eq_true rfl), (Nat.le_of_ble_eq_true rfl)⟩) (kW_V kT_blind kT_give (va_recv hKc hPc (ci := 10) (q0 := 0) rfl rfl) hPc hKc hDc) rfl rfl hl.1 rfl (lv_room (Nat.le_of_ble_eq_true rfl)) dX10_unit_1 ⟨(Nat.le_of_ble_eq_true rfl), (Nat.le_of_ble_eq_true rfl)⟩) hS (fun q _ h => hFc q h) hFc (fun r_1 u t H1 locs ht hvm hw hB hz1 hk1 hS => ?_)
  obtain ⟨a1_2, rfl⟩ : ∃ z, z = u := ⟨_, rfl⟩
  obtain ⟨hP1, hK1, hD1⟩ := hB
  rw [ht] at hP1
  try dsimp only at hw
  obtain ⟨hP, hD⟩ : kPD dC dI A [(jM, kMo vs (.ref lt) (.ref tx) (.int (nI (be))) (.int (nI (en))) (.int (nI (a1_2))) (.int (-1)) (.int 2) (v14 : Value) (v15 : Value) (.ref q6) (.ref q7) (v18 : Value)), (tx, .inl (cT, nT, .inl gT)), (lt, .inl (cE, 128, .inl gE))] H1 := kJoinI hP hD [0, 1] rfl hk1 hFc hP1 hD1 rfl [some 0, some 1, none] rfl rfl
  generalize H1 = H at hP hS ⊢
  have hw_3 := hw
  have hw_3_3 := hw_3.2.1
  refine lv_istore_n hx hb dX10_unit_4 rfl hl (by decide) (kTo [(1, .int r_1), (0, .ref jM)]) (fun ls hl => ?_)
  refine lv_iload_n hx hb dX10_unit_5 rfl (lv_at hl 0 rfl) ?_
  refine lv_bipush (v := 33) hx hb dX10_unit_6 (by decide) ?_
  refine lv_icmp_ne (tgt := 45) hx hb dX10_unit_8 (by decide) (fun c_4 => ?_) (fun c_4 => ?_)
  · refine lv_iload_n hx hb dX10_unit_45 rfl (lv_at hl 0 rfl) ?_
    refine lv_bipush (v := 40) hx hb dX10_unit_46 (by decide) ?_
    refine lv_icmp_ne (tgt := 90) hx hb dX10_unit_48 (by decide) (fun c_5 => ?_) (fun c_5 => ?_)
    · refine lv_aload_n hx hb dX10_unit_90 rfl (lv_at hl 1 rfl) ?_
      refine lv_iconst (v := 0) hx hb dX10_unit_91 (by decide) ?_
      refine lv_iconst (v := 0) hx hb dX10_unit_92 (by decide) ?_
      obtain ⟨hPc, hDc, hFc⟩ := kCut (wc := [(jM, kMo vs (.ref lt) (.ref tx) (.int (nI (be))) (.int (nI (en))) (.int (nI (a1_2))) (.int (-1)) (.int 2) (v14 : Value) (v15 : Value) (.ref q6) (.ref q7) (v18 : Value)), (tx, .inl (cT, nT, .inl gT)), (lt, .inl (cE, 128, .inl gE))]) hP hD hS hA [0, 1, 2] rfl (by decide) rfl
      have hKc := hK.sb (tys2 := [(cT, .byte), (cE, .int)]) [0, 1] rfl
      refine va_calli (va_runV (As := [.int 0, .int 0]) (rest := []) ⟨hx, hb, hml, hown, hts⟩ (s_comp10_2_0 l dC dI jM vs ((v14 : Value) : Value) ((v15 : Value) : Value) ((v18 : Value) : Value) lt q6 q7 tx cT nT gT be en a1_2 (by omega) (by omega) (by omega) cE gE b6 n6 g6 hn6 hg6 b7 n7 g7 hn7 hg7 0 H.size) (cwV 2 hts (kG (List.forall_mem_cons.mpr ⟨(List.mem_cons_of_mem _ (List.mem_append_left _ (List.mem_of_getElem? (i := 40) rfl))), (List.forall_mem_cons.mpr ⟨(List.mem_cons_of_mem _ (List.mem_append_left _ (List.mem_of_getElem? (i := 39) rfl))), (List.forall_mem_cons.mpr ⟨(List.mem_cons_of_mem _ (List.mem_append_left _ (List.mem_of_getElem? (i := 38) rfl))), (List.forall_mem_cons.mpr ⟨(List.mem_cons_of_mem _ (List.mem_append_left _ (List.mem_of_getElem? (i := 0) rfl))), (fun _ h => absurd h List.not_mem_nil)⟩)⟩)⟩)⟩) (kGV _ _ _ _) (kFam (List.mem_cons_of_mem _ (List.mem_append_left _ (List.mem_of_getElem? (i := 37) rfl)))) gw_s_comp10_2_0) rfl rfl rfl ⟨rfl, hd_X10_compares⟩ ⟨(Nat.le_of_ble_eq_true rfl), (Nat.le_of_ble_eq_true rfl)⟩) (kW_V kS2_blind (kS2_give hX hS hFc) (va_recv hKc hPc (ci := 10) (q0 := 0) rfl rfl) hPc hKc hDc) rfl rfl hl.1 rfl (lv_room (Nat.le_of_ble_eq_true rfl)) dX10_unit_93 ⟨(Nat.le_of_ble_eq_true rfl), (Nat.le_of_ble_eq_true rfl)⟩) hS (fun q _ h => hFc q h) hFc (fun r_6 u t H1 locs ht hvm hw hB hz1 hk1 hS => ?_)
      obtain ⟨a1_7, xf_8, xd_9⟩ := u
      obtain ⟨hP1, hK1, hD1⟩ := hB
      rw [ht] at hP1
      try dsimp only at hw
      obtain ⟨hP, hD⟩ : kPD dC dI A [(jM, kMo vs (.ref lt) (.ref tx) (.int (nI (be))) (.int (nI (en))) (.int (nI (a1_7))) (.int xf_8) (.int xd_9) ((v14 : Value) : Value) ((v15 : Value) : Value) (.ref q6) (.ref q7) ((v18 : Value) : Value)), (tx, .inl (cT, nT, .inl gT)), (lt, .inl (cE, 128, .inl gE))] H1 := kJoinI hP hD [0, 1, 2] rfl hk1 hFc hP1 hD1 rfl [some 0, some 1, some 2] rfl rfl
      generalize H1 = H at hP hS ⊢
      have hw_10 := hw
      have hw_10_a := hw_10.2.1
      have hw_10_b := hw_10.1
      have hP9 := hP
      have hD9 := hD
      have hK9 := hK
      rw [hQ]
      exact W.zret (v := r_6) hx hb hr (kB01 hw_10.1) (fun t ht hW => ⟨⟨r_6, (a1_7, xf_8, xd_9), rfl, ⟨hw_10.1, by omega, hw_10.2.2⟩,  by rw [ht]; exact hP9, va_K.moved hW.alike hK9, hD9⟩, hS.F ht⟩) hS.2.2 dX10_unit_96
    · have hns_11 := hw_3.1.resolve_left (fun z9 => absurd (c_5.symm.trans z9) (by decide))
      have hns_11_1 := hns_11.1
      refine lv_aload_n hx hb dX10_unit_51 rfl (lv_at hl 1 rfl) ?_
      obtain ⟨hPc, hDc, hFc⟩ := kCut (wc := [(jM, kMo vs (.ref lt) (.ref tx) (.int (nI (be))) (.int (nI (en))) (.int (nI (a1_2))) (.int (-1)) (.int 2) (v14 : Value) (v15 : Value) (.ref q6) (.ref q7) (v18 : Value))]) hP hD hS hA [0] rfl (by decide) rfl
      have hKc := hK.sb (tys2 := []) [] rfl
      refine va_calli (va_runV (As := []) (rest := []) ⟨hx, hb, hml, hown, hts⟩ (s_goesIn10_2 l dC dI jM vs (.int (-1) : Value) ((v14 : Value) : Value) ((v15 : Value) : Value) ((v18 : Value) : Value) lt q6 q7 tx be en a1_2 (by omega) (by omega) (by omega) H.size) (cwV 0 hts (kG (List.forall_mem_cons.mpr ⟨(List.mem_cons_of_mem _ (List.mem_append_left _ (List.mem_of_getElem? (i := 19) rfl))), (List.forall_mem_cons.mpr ⟨(List.mem_cons_of_mem _ (List.mem_append_left _ (List.mem_of_getElem? (i := 18) rfl))), (List.forall_mem_cons.mpr ⟨(List.mem_cons_of_mem _ (List.mem_append_left _ (List.mem_of_getElem? (i := 17) rfl))), (List.forall_mem_cons.mpr ⟨(List.mem_cons_of_mem _ (List.mem_append_left _ (List.mem_of_getElem? (i := 0) rfl))), (fun _ h => absurd h List.not_mem_nil)⟩)⟩)⟩)⟩) (kGV _ _ _ _) (fun _ h => List.mem_cons_of_mem _ (List.mem_append_right _ (List.mem_append_right _ (List.mem_append_right _ (List.mem_append_right _ (List.mem_append_right _ (List.mem_append_right _ (List.mem_append_right _ (List.mem_append_right _ (List.mem_append_right _ (List.mem_append_right _ (List.mem_append_right _ (List.mem_append_right _ (List.mem_append_right _ (List.mem_append_left _ h))))))))))))))) gw_s_goesIn10_2) rfl rfl rfl ⟨rfl, hd_X10_goesIn⟩ ⟨(Nat.le_of_ble_eq_true rfl), (Nat.le_of_ble_eq_true rfl)⟩) (kW_V kT_blind kT_give (va_recv hKc hPc (ci := 10) (q0 := 0) rfl rfl) hPc hKc hDc) rfl rfl hl.1 rfl (lv_room (Nat.le_of_ble_eq_true rfl)) dX10_unit_52 ⟨(Nat.le_of_ble_eq_true rfl), (Nat.le_of_ble_eq_true rfl)⟩) hS (fun q _ h => hFc q h) hFc (fun r_12 u t H1 locs ht hvm hw hB hz1 hk1 hS => ?_)
      obtain ⟨hP1, hK1, hD1⟩ := hB
      rw [ht] at hP1
      try dsimp only at hw
      obtain ⟨hP, hD⟩ : kPD dC dI A [(jM, kMo vs (.ref lt) (.ref tx) (.int (nI (be))) (.int (nI (en))) (.int (nI (a1_2 + 1))) (.int (-1)) (.int 3) ((v14 : Value) : Value) ((v15 : Value) : Value) (.ref q6) (.ref q7) ((v18 : Value) : Value)), (tx, .inl (cT, nT, .inl gT)), (lt, .inl (cE, 128, .inl gE))] H1 := kJoinI hP hD [0] rfl hk1 hFc hP1 hD1 rfl [some 0, none, none] rfl rfl
      generalize H1 = H at hP hS ⊢
      obtain rfl : r_12 = 1 := hw
      refine lv_if_ne (tgt := 60) hx hb dX10_unit_55 (by decide) (fun c_13 => ?_) (fun c_13 => absurd c_13 (by decide))
      refine lv_aload_n hx hb dX10_unit_60 rfl (lv_at hl 1 rfl) ?_
      refine lv_iconst (v := 0) hx hb dX10_unit_61 (by decide) ?_
      refine lv_iconst (v := 0) hx hb dX10_unit_62 (by decide) ?_
      obtain ⟨hPc, hDc, hFc⟩ := kCut (wc := [(jM, kMo vs (.ref lt) (.ref tx) (.int (nI (be))) (.int (nI (en))) (.int (nI (a1_2 + 1))) (.int (-1)) (.int 3) ((v14 : Value) : Value) ((v15 : Value) : Value) (.ref q6) (.ref q7) ((v18 : Value) : Value)), (tx, .inl (cT, nT, .inl gT)), (lt, .inl (cE, 128, .inl gE))]) hP hD hS hA [0, 1, 2] rfl (by decide) rfl
      have hKc := hK.sb (tys2 := [(cT, .byte), (cE, .int)]) [0, 1] rfl
      refine va_calli (va_runV (As := [.int 0, .int 0]) (rest := []) ⟨hx, hb, hml, hown, hts⟩ (s_cond10_3_0 l dC dI jM vs (((v14 : Value) : Value) : Value) (((v15 : Value) : Value) : Value) (((v18 : Value) : Value) : Value) lt q6 q7 tx cT nT gT be en (a1_2 + 1) (by omega) (by omega) (by omega) cE gE b6 n6 g6 hn6 hg6 b7 n7 g7 hn7 hg7 0 H.size) (cwV 2 hts (kG (List.forall_mem_cons.mpr ⟨(List.mem_cons_of_mem _ (List.mem_append_left _ (List.mem_of_getElem? (i := 56) rfl))), (List.forall_mem_cons.mpr ⟨(List.mem_cons_of_mem _ (List.mem_append_left _ (List.mem_of_getElem? (i := 55) rfl))), (List.forall_mem_cons.mpr ⟨(List.mem_cons_of_mem _ (List.mem_append_left _ (List.mem_of_getElem? (i := 54) rfl))), (List.forall_mem_cons.mpr ⟨(List.mem_cons_of_mem _ (List.mem_append_left _ (List.mem_of_getElem? (i := 0) rfl))), (fun _ h => absurd h List.not_mem_nil)⟩)⟩)⟩)⟩) (kGV _ _ _ _) (kFam (List.mem_cons_of_mem _ (List.mem_append_left _ (List.mem_of_getElem? (i := 53) rfl)))) gw_s_cond10_3_0) rfl rfl rfl ⟨rfl, hd_X10_condition⟩ ⟨(Nat.le_of_ble_eq_true rfl), (Nat.le_of_ble_eq_true rfl)⟩) (kW_V kS2_blind (kS2_give hX hS hFc) (va_recv hKc hPc (ci := 10) (q0 := 0) rfl rfl) hPc hKc hDc) rfl rfl hl.1 rfl (lv_room (Nat.le_of_ble_eq_true rfl)) dX10_unit_63 ⟨(Nat.le_of_ble_eq_true rfl), (Nat.le_of_ble_eq_true rfl)⟩) hS (fun q _ h => hFc q h) hFc (fun r_14 u t H1 locs ht hvm hw hB hz1 hk1 hS => ?_)
      obtain ⟨a1_15, xf_16, xd_17⟩ := u
      obtain ⟨hP1, hK1, hD1⟩ := hB
      rw [ht] at hP1
      try dsimp only at hw
      obtain ⟨hP, hD⟩ : kPD dC dI A [(jM, kMo vs (.ref lt) (.ref tx) (.int (nI (be))) (.int (nI (en))) (.int (nI (a1_15))) (.int xf_16) (.int xd_17) (((v14 : Value) : Value) : Value) (((v15 : Value) : Value) : Value) (.ref q6) (.ref q7) (((v18 : Value) : Value) : Value)), (tx, .inl (cT, nT, .inl gT)), (lt, .inl (cE, 128, .inl gE))] H1 := kJoinI hP hD [0, 1, 2] rfl hk1 hFc hP1 hD1 rfl [some 0, some 1, some 2] rfl rfl
      generalize H1 = H at hP hS ⊢
      have hw_18 := hw
      have hw_18_a := hw_18.2.1
      have hw_18_b := hw_18.1
      refine lv_istore_n hx hb dX10_unit_66 rfl hl (by decide) (kTo [(2, .int r_14), (1, .int r_1), (0, .ref jM)]) (fun ls hl => ?_)
      refine lv_aload_n hx hb dX10_unit_67 rfl (lv_at hl 2 rfl) ?_
      refine lv_bipush (v := 41) hx hb dX10_unit_68 (by decide) ?_
      obtain ⟨hPc, hDc, hFc⟩ := kCut (wc := [(jM, kMo vs (.ref lt) (.ref tx) (.int (nI (be))) (.int (nI (en))) (.int (nI (a1_15))) (.int xf_16) (.int xd_17) (((v14 : Value) : Value) : Value) (((v15 : Value) : Value) : Value) (.ref q6) (.ref q7) (((v18 : Value) : Value) : Value)), (tx, .inl (cT, nT, .inl gT))]) hP hD hS hA [0, 1] rfl (by decide) rfl
      have hKc := hK.sb (tys2 := [(cT, .byte)]) [0] rfl
      refine va_calli (va_runV (As := [.int 41]) (rest := []) ⟨hx, hb, hml, hown, hts⟩ (s_takes10 l dC dI jM vs (.int xd_17 : Value) ((((v14 : Value) : Value) : Value) : Value) ((((v15 : Value) : Value) : Value) : Value) ((((v18 : Value) : Value) : Value) : Value) lt q6 q7 tx cT nT gT be en a1_15 (by omega) (by omega) (by omega) xf_16 41 (by decide) H.size) (cwV 1 hts (kG (List.forall_mem_cons.mpr ⟨(List.mem_cons_of_mem _ (List.mem_append_left _ (List.mem_of_getElem? (i := 51) rfl))), (List.forall_mem_cons.mpr ⟨(List.mem_cons_of_mem _ (List.mem_append_left _ (List.mem_of_getElem? (i := 50) rfl))), (List.forall_mem_cons.mpr ⟨(List.mem_cons_of_mem _ (List.mem_append_left _ (List.mem_of_getElem? (i := 49) rfl))), (List.forall_mem_cons.mpr ⟨(List.mem_cons_of_mem _ (List.mem_append_left _ (List.mem_of_getElem? (i := 0) rfl))), (fun _ h => absurd h List.not_mem_nil)⟩)⟩)⟩)⟩) (kGV _ _ _ _) (fun _ h => List.mem_cons_of_mem _ (List.mem_append_right _ (List.mem_append_right _ (List.mem_append_right _ (List.mem_append_right _ (List.mem_append_right _ (List.mem_append_right _ (List.mem_append_right _ (List.mem_append_right _ (List.mem_append_right _ (List.mem_append_right _ (List.mem_append_left _ h)))))))))))) gw_s_takes10) rfl rfl rfl ⟨rfl, hd_X10_takes⟩ ⟨(Nat.le_of_ble_eq_true rfl), (Nat.le_of_ble_eq_true rfl)⟩) (kW_V kT_blind kT_give (va_recv hKc hPc (ci := 10) (q0 := 0) rfl rfl) hPc hKc hDc) rfl rfl hl.1 rfl (lv_room (Nat.le_of_ble_eq_true rfl)) dX10_unit_70 ⟨(Nat.le_of_ble_eq_true rfl), (Nat.le_of_ble_eq_true rfl)⟩) hS (fun q _ h => hFc q h) hFc (fun r_19 u t H1 locs ht hvm hw hB hz1 hk1 hS => ?_)
      obtain ⟨a1_20, xf_21⟩ := u
      obtain ⟨hP1, hK1, hD1⟩ := hB
      rw [ht] at hP1
      try dsimp only at hw
      obtain ⟨hP, hD⟩ : kPD dC dI A [(jM, kMo vs (.ref lt) (.ref tx) (.int (nI (be))) (.int (nI (en))) (.int (nI (a1_20))) (.int xf_21) (.int xd_17) ((((v14 : Value) : Value) : Value) : Value) ((((v15 : Value) : Value) : Value) : Value) (.ref q6) (.ref q7) ((((v18 : Value) : Value) : Value) : Value)), (tx, .inl (cT, nT, .inl gT)), (lt, .inl (cE, 128, .inl gE))] H1 := kJoinI hP hD [0, 1] rfl hk1 hFc hP1 hD1 rfl [some 0, some 1, none] rfl rfl
      generalize H1 = H at hP hS ⊢
      have hw_22 := hw
      have hw_22_0 := hw_22.2.1
      refine lv_if_ne (tgt := 78) hx hb dX10_unit_73 (by decide) (fun c_23 => ?_) (fun c_23 => ?_)
      · obtain ⟨e_24, e_24_2⟩ := hw_22.2.2.2 c_23
        have e_24_3 := hw_18.2.2 e_24
        subst e_24_3
        subst e_24_2
        refine lv_aload_n hx hb dX10_unit_78 rfl (lv_at hl 2 rfl) ?_
        refine lv_dup hx hb dX10_unit_79 rfl ?_
        refine va_get (D := (dC, dI)) (ci := 10) (v := .int 3) (C := RX10) (T := TX10) (N := 52) hx hb hts (fun _ h => List.mem_cons_of_mem _ (List.mem_append_right _ (List.mem_append_right _ (List.mem_append_left _ h)))) hown hK hP 0 rfl rfl 13 (by decide) (hts (.fieldLink RX10 153 "NotEndedModel" "deep" "I") (List.mem_cons_of_mem _ (List.mem_append_left _ (List.mem_of_getElem? (i := 52) rfl)))) (fun _ h9 => h9) rfl dX10_unit_80 ?_
        refine lv_iconst (v := 1) hx hb dX10_unit_83 (by decide) ?_
        refine lv_isub hx hb dX10_unit_84 ?_
        refine lv_topi (fun y_25 ey_25 => ?_)
        obtain rfl : y_25 = 2 := ey_25.trans (by decide)
        refine va_put (D := (dC, dI)) (ci := 10) (v := .int 2) (ty := tyX10 13) (C := RX10) (T := TX10) (N := 52) hx hb hts (fun _ h => List.mem_cons_of_mem _ (List.mem_append_right _ (List.mem_append_right _ (List.mem_append_left _ h)))) tyX10 tyX10_ok nmX10 hown hK hP hD hS 0 rfl rfl 13 (by decide) (hts (.fieldLink RX10 153 "NotEndedModel" "deep" "I") (List.mem_cons_of_mem _ (List.mem_append_left _ (List.mem_of_getElem? (i := 52) rfl)))) (fun _ h9 => h9) rfl (tyX10_ok 13 (by decide)) rfl rfl (Nat.le_of_ble_eq_true rfl) dX10_unit_85 (fun H locs hP hD hS => ?_)
        obtain ⟨hP, hD⟩ : kPD dC dI A [(jM, kMo vs (.ref lt) (.ref tx) (.int (nI (be))) (.int (nI (en))) (.int (nI (a1_20))) (.int (-1)) (.int 2) ((((v14 : Value) : Value) : Value) : Value) ((((v15 : Value) : Value) : Value) : Value) (.ref q6) (.ref q7) ((((v18 : Value) : Value) : Value) : Value)), (tx, .inl (cT, nT, .inl gT)), (lt, .inl (cE, 128, .inl gE))] H := ⟨hP, hD⟩
        refine lv_iload_n hx hb dX10_unit_88 rfl (lv_at hl 0 rfl) ?_
        have hP9 := hP
        have hD9 := hD
        have hK9 := hK
        rw [hQ]
        exact W.zret (v := r_14) hx hb hr (kB01 hw_18.1) (fun t ht hW => ⟨⟨r_14, (a1_20, (-1), 2), rfl, ⟨hw_18.1, by omega, (fun _ => rfl)⟩,  by rw [ht]; exact hP9, va_K.moved hW.alike hK9, hD9⟩, hS.F ht⟩) hS.2.2 dX10_unit_89
      · have e_26 := hw_22.2.2.1 c_23
        refine lv_iconst (v := 0) hx hb dX10_unit_76 (by decide) ?_
        have hP9 := hP
        have hD9 := hD
        have hK9 := hK
        rw [hQ]
        exact W.zret (v := 0) hx hb hr rfl (fun t ht hW => ⟨⟨0, (a1_20, xf_21, xd_17), rfl, ⟨(Or.inl rfl), by omega, (fun z9 => absurd z9 e_26)⟩,  by rw [ht]; exact hP9, va_K.moved hW.alike hK9, hD9⟩, hS.F ht⟩) hS.2.2 dX10_unit_77
  · have hns_27 := hw_3.1.resolve_left (fun z9 => absurd (c_4.symm.trans z9) (by decide))
    have hns_27_1 := hns_27.1
    refine lv_aload_n hx hb dX10_unit_11 rfl (lv_at hl 1 rfl) ?_
    obtain ⟨hPc, hDc, hFc⟩ := kCut (wc := [(jM, kMo vs (.ref lt) (.ref tx) (.int (nI (be))) (.int (nI (en))) (.int (nI (a1_2))) (.int (-1)) (.int 2) (v14 : Value) (v15 : Value) (.ref q6) (.ref q7) (v18 : Value))]) hP hD hS hA [0] rfl (by decide) rfl
    have hKc := hK.sb (tys2 := []) [] rfl
    refine va_calli (va_runV (As := []) (rest := []) ⟨hx, hb, hml, hown, hts⟩ (s_goesIn10_2 l dC dI jM vs (.int (-1) : Value) ((v14 : Value) : Value) ((v15 : Value) : Value) ((v18 : Value) : Value) lt q6 q7 tx be en a1_2 (by omega) (by omega) (by omega) H.size) (cwV 0 hts (kG (List.forall_mem_cons.mpr ⟨(List.mem_cons_of_mem _ (List.mem_append_left _ (List.mem_of_getElem? (i := 19) rfl))), (List.forall_mem_cons.mpr ⟨(List.mem_cons_of_mem _ (List.mem_append_left _ (List.mem_of_getElem? (i := 18) rfl))), (List.forall_mem_cons.mpr ⟨(List.mem_cons_of_mem _ (List.mem_append_left _ (List.mem_of_getElem? (i := 17) rfl))), (List.forall_mem_cons.mpr ⟨(List.mem_cons_of_mem _ (List.mem_append_left _ (List.mem_of_getElem? (i := 0) rfl))), (fun _ h => absurd h List.not_mem_nil)⟩)⟩)⟩)⟩) (kGV _ _ _ _) (fun _ h => List.mem_cons_of_mem _ (List.mem_append_right _ (List.mem_append_right _ (List.mem_append_right _ (List.mem_append_right _ (List.mem_append_right _ (List.mem_append_right _ (List.mem_append_right _ (List.mem_append_right _ (List.mem_append_right _ (List.mem_append_right _ (List.mem_append_right _ (List.mem_append_right _ (List.mem_append_right _ (List.mem_append_left _ h))))))))))))))) gw_s_goesIn10_2) rfl rfl rfl ⟨rfl, hd_X10_goesIn⟩ ⟨(Nat.le_of_ble_eq_true rfl), (Nat.le_of_ble_eq_true rfl)⟩) (kW_V kT_blind kT_give (va_recv hKc hPc (ci := 10) (q0 := 0) rfl rfl) hPc hKc hDc) rfl rfl hl.1 rfl (lv_room (Nat.le_of_ble_eq_true rfl)) dX10_unit_12 ⟨(Nat.le_of_ble_eq_true rfl), (Nat.le_of_ble_eq_true rfl)⟩) hS (fun q _ h => hFc q h) hFc (fun r_28 u t H1 locs ht hvm hw hB hz1 hk1 hS => ?_)
    obtain ⟨hP1, hK1, hD1⟩ := hB
    rw [ht] at hP1
    try dsimp only at hw
    obtain ⟨hP, hD⟩ : kPD dC dI A [(jM, kMo vs (.ref lt) (.ref tx) (.int (nI (be))) (.int (nI (en))) (.int (nI (a1_2 + 1))) (.int (-1)) (.int 3) ((v14 : Value) : Value) ((v15 : Value) : Value) (.ref q6) (.ref q7) ((v18 : Value) : Value)), (tx, .inl (cT, nT, .inl gT)), (lt, .inl (cE, 128, .inl gE))] H1 := kJoinI hP hD [0] rfl hk1 hFc hP1 hD1 rfl [some 0, none, none] rfl rfl
    generalize H1 = H at hP hS ⊢
    obtain rfl : r_28 = 1 := hw
    refine lv_if_ne (tgt := 20) hx hb dX10_unit_15 (by decide) (fun c_29 => ?_) (fun c_29 => absurd c_29 (by decide))
    refine lv_aload_n hx hb dX10_unit_20 rfl (lv_at hl 1 rfl) ?_
    obtain ⟨hPc, hDc, hFc⟩ := kCut (wc := [(jM, kMo vs (.ref lt) (.ref tx) (.int (nI (be))) (.int (nI (en))) (.int (nI (a1_2 + 1))) (.int (-1)) (.int 3) ((v14 : Value) : Value) ((v15 : Value) : Value) (.ref q6) (.ref q7) ((v18 : Value) : Value)), (tx, .inl (cT, nT, .inl gT)), (lt, .inl (cE, 128, .inl gE))]) hP hD hS hA [0, 1, 2] rfl (by decide) rfl
    have hKc := hK.sb (tys2 := [(cT, .byte), (cE, .int)]) [0, 1] rfl
    refine va_calli (va_runV (As := []) (rest := []) ⟨hx, hb, hml, hown, hts⟩ (s_unit10_3 l dC dI jM vs (((v14 : Value) : Value) : Value) (((v15 : Value) : Value) : Value) (((v18 : Value) : Value) : Value) lt q6 q7 tx cT nT gT be en (a1_2 + 1) (by omega) (by omega) (by omega) cE gE b6 n6 g6 hn6 hg6 b7 n7 g7 hn7 hg7 H.size) (cwV 0 hts (kG (List.forall_mem_cons.mpr ⟨(List.mem_cons_of_mem _ (List.mem_append_left _ (List.mem_of_getElem? (i := 44) rfl))), (List.forall_mem_cons.mpr ⟨(List.mem_cons_of_mem _ (List.mem_append_left _ (List.mem_of_getElem? (i := 43) rfl))), (List.forall_mem_cons.mpr ⟨(List.mem_cons_of_mem _ (List.mem_append_left _ (List.mem_of_getElem? (i := 42) rfl))), (List.forall_mem_cons.mpr ⟨(List.mem_cons_of_mem _ (List.mem_append_left _ (List.mem_of_getElem? (i := 0) rfl))), (fun _ h => absurd h List.not_mem_nil)⟩)⟩)⟩)⟩) (kGV _ _ _ _) (kFam (List.mem_cons_of_mem _ (List.mem_append_left _ (List.mem_of_getElem? (i := 41) rfl)))) gw_s_unit10_3) rfl rfl rfl ⟨rfl, hd_X10_unit⟩ ⟨(Nat.le_of_ble_eq_true rfl), (Nat.le_of_ble_eq_true rfl)⟩) (kW_V kS2_blind (kS2_give hX hS hFc) (va_recv hKc hPc (ci := 10) (q0 := 0) rfl rfl) hPc hKc hDc) rfl rfl hl.1 rfl (lv_room (Nat.le_of_ble_eq_true rfl)) dX10_unit_21 ⟨(Nat.le_of_ble_eq_true rfl), (Nat.le_of_ble_eq_true rfl)⟩) hS (fun q _ h => hFc q h) hFc (fun r_30 u t H1 locs ht hvm hw hB hz1 hk1 hS => ?_)
    obtain ⟨a1_31, xf_32, xd_33⟩ := u
    obtain ⟨hP1, hK1, hD1⟩ := hB
    rw [ht] at hP1
    try dsimp only at hw
    obtain ⟨hP, hD⟩ : kPD dC dI A [(jM, kMo vs (.ref lt) (.ref tx) (.int (nI (be))) (.int (nI (en))) (.int (nI (a1_31))) (.int xf_32) (.int xd_33) (((v14 : Value) : Value) : Value) (((v15 : Value) : Value) : Value) (.ref q6) (.ref q7) (((v18 : Value) : Value) : Value)), (tx, .inl (cT, nT, .inl gT)), (lt, .inl (cE, 128, .inl gE))] H1 := kJoinI hP hD [0, 1, 2] rfl hk1 hFc hP1 hD1 rfl [some 0, some 1, some 2] rfl rfl
    generalize H1 = H at hP hS ⊢
    have hw_34 := hw
    have hw_34_a := hw_34.2.1
    have hw_34_b := hw_34.1
    refine lv_istore_n hx hb dX10_unit_24 rfl hl (by decide) (kTo [(2, .int r_30), (1, .int r_1), (0, .ref jM)]) (fun ls hl => ?_)
    refine lv_aload_n hx hb dX10_unit_25 rfl (lv_at hl 2 rfl) ?_
    refine lv_dup hx hb dX10_unit_26 rfl ?_
    refine va_get (D := (dC, dI)) (ci := 10) (v := .int xd_33) (C := RX10) (T := TX10) (N := 52) hx hb hts (fun _ h => List.mem_cons_of_mem _ (List.mem_append_right _ (List.mem_append_right _ (List.mem_append_left _ h)))) hown hK hP 0 rfl rfl 13 (by decide) (hts (.fieldLink RX10 153 "NotEndedModel" "deep" "I") (List.mem_cons_of_mem _ (List.mem_append_left _ (List.mem_of_getElem? (i := 52) rfl)))) (fun _ h9 => h9) rfl dX10_unit_27 ?_
    refine lv_iconst (v := 1) hx hb dX10_unit_30 (by decide) ?_
    refine lv_isub hx hb dX10_unit_31 ?_
    refine lv_topi (fun x_35 ex_35 => ?_)
    refine va_put (D := (dC, dI)) (ci := 10) (v := .int x_35) (ty := tyX10 13) (C := RX10) (T := TX10) (N := 52) hx hb hts (fun _ h => List.mem_cons_of_mem _ (List.mem_append_right _ (List.mem_append_right _ (List.mem_append_left _ h)))) tyX10 tyX10_ok nmX10 hown hK hP hD hS 0 rfl rfl 13 (by decide) (hts (.fieldLink RX10 153 "NotEndedModel" "deep" "I") (List.mem_cons_of_mem _ (List.mem_append_left _ (List.mem_of_getElem? (i := 52) rfl)))) (fun _ h9 => h9) rfl (tyX10_ok 13 (by decide)) rfl rfl (Nat.le_of_ble_eq_true rfl) dX10_unit_32 (fun H locs hP hD hS => ?_)
    obtain ⟨hP, hD⟩ : kPD dC dI A [(jM, kMo vs (.ref lt) (.ref tx) (.int (nI (be))) (.int (nI (en))) (.int (nI (a1_31))) (.int xf_32) (.int x_35) (((v14 : Value) : Value) : Value) (((v15 : Value) : Value) : Value) (.ref q6) (.ref q7) (((v18 : Value) : Value) : Value)), (tx, .inl (cT, nT, .inl gT)), (lt, .inl (cE, 128, .inl gE))] H := ⟨hP, hD⟩
    refine lv_iload_n hx hb dX10_unit_35 rfl (lv_at hl 0 rfl) ?_
    refine lv_if_ne (tgt := 43) hx hb dX10_unit_36 (by decide) (fun c_36 => ?_) (fun c_36 => ?_)
    · refine lv_iconst (v := 0) hx hb dX10_unit_43 (by decide) ?_
      have hP9 := hP
      have hD9 := hD
      have hK9 := hK
      rw [hQ]
      exact W.zret (v := 0) hx hb hr rfl (fun t ht hW => ⟨⟨0, (a1_31, xf_32, x_35), rfl, ⟨(Or.inl rfl), by omega, (fun z9 => by rw [ex_35, hw_34.2.2 z9]; decide)⟩,  by rw [ht]; exact hP9, va_K.moved hW.alike hK9, hD9⟩, hS.F ht⟩) hS.2.2 dX10_unit_44
    · refine lv_iconst (v := 1) hx hb dX10_unit_39 (by decide) ?_
      refine lv_goto (tgt := 44) hx hb dX10_unit_40 (by decide) ?_
      have hP9 := hP
      have hD9 := hD
      have hK9 := hK
      rw [hQ]
      exact W.zret (v := 1) hx hb hr rfl (fun t ht hW => ⟨⟨1, (a1_31, xf_32, x_35), rfl, ⟨(Or.inr rfl), by omega, (fun z9 => by rw [ex_35, hw_34.2.2 z9]; decide)⟩,  by rw [ht]; exact hP9, va_K.moved hW.alike hK9, hD9⟩, hS.F ht⟩) hS.2.2 dX10_unit_44

def w_s_part10_2_0 : List Cond := .code yX10_part cX10_part 5 (some .boolean) :: wf_md
theorem gw_s_part10_2_0 : (w_s_part10_2_0).all goodWord = true := kFamG rfl gf_md
set_option maxHeartbeats 4000000 in
set_option maxRecDepth 100000 in
theorem s_part10_2_0 (l : Launch) (dC : Nat → ClassId) (dI : Nat → Nat → Nat) (jM : Nat) (vs : Nat → Value) (v14 : Value) (v15 : Value) (v18 : Value) (lt : Nat) (q6 : Nat) (q7 : Nat) (tx : Nat) (cT : ClassId) (nT : Nat) (gT : Nat → Int32) (be : Nat) (en : Nat) (a : Nat) (hbe : be + en ≤ nT) (hnT : nT ≤ 1680) (ha : a ≤ en) (cE : ClassId) (gE : Nat → Int32) (b6 : Nat) (n6 : Nat) (g6 : Nat → Int32) (hn6 : n6 ≤ 8) (hg6 : ∀ k : Nat, ∃ v : Nat, v < 128 ∧ g6 k = nI v) (b7 : Nat) (n7 : Nat) (g7 : Nat → Int32) (hn7 : n7 ≤ 8) (hg7 : ∀ k : Nat, ∃ v : Nat, v < 128 ∧ g7 k = nI v) (p1 : Int32) (sz : Nat) : Met l yX10_part w_s_part10_2_0 ({ frames := 40, cells := 0, slots := 0, locals := 2400 }) (kW dC dI [.ref jM, .int 0, .int p1] [(jM, kMo vs (.ref lt) (.ref tx) (.int (nI (be))) (.int (nI (en))) (.int (nI (a))) (.int (-1)) (.int 2) v14 v15 (.ref q6) (.ref q7) v18), (tx, .inl (cT, nT, .inl gT)), (lt, .inl (cE, 128, .inl gE))] [(cT, .byte), (cE, .int)] (kS2 q6 b6 n6 g6 q7 b7 n7 g7 (va_A [(jM, kMo vs (.ref lt) (.ref tx) (.int (nI (be))) (.int (nI (en))) (.int (nI (a))) (.int (-1)) (.int 2) v14 v15 (.ref q6) (.ref q7) v18), (tx, .inl (cT, nT, .inl gT)), (lt, .inl (cE, 128, .inl gE))] sz)) sz) (va_Qi (fun (r : Int32) (u : Nat × Int32 × Int32) => match u with | (a1, xf, xd) => ((r = 0 ∨ r = 1) ∧ (a ≤ a1 ∧ a1 ≤ en) ∧ (xf = -1 → xd = 2))) (fun (u : Nat × Int32 × Int32) => match u with | (a1, xf, xd) => fun t : State => kB dC dI [(jM, kMo vs (.ref lt) (.ref tx) (.int (nI (be))) (.int (nI (en))) (.int (nI (a1))) (.int xf) (.int xd) v14 v15 (.ref q6) (.ref q7) v18), (tx, .inl (cT, nT, .inl gT)), (lt, .inl (cE, 128, .inl gE))] [(cT, .byte), (cE, .int)] (va_A [(jM, kMo vs (.ref lt) (.ref tx) (.int (nI (be))) (.int (nI (en))) (.int (nI (a))) (.int (-1)) (.int 2) v14 v15 (.ref q6) (.ref q7) v18), (tx, .inl (cT, nT, .inl gT)), (lt, .inl (cE, 128, .inl gE))] sz) t) (va_A [(jM, kMo vs (.ref lt) (.ref tx) (.int (nI (be))) (.int (nI (en))) (.int (nI (a))) (.int (-1)) (.int 2) v14 v15 (.ref q6) (.ref q7) v18), (tx, .inl (cT, nT, .inl gT)), (lt, .inl (cE, 128, .inl gE))] sz)) 0 0 (va_A [(jM, kMo vs (.ref lt) (.ref tx) (.int (nI (be))) (.int (nI (en))) (.int (nI (a))) (.int (-1)) (.int 2) v14 v15 (.ref q6) (.ref q7) v18), (tx, .inl (cT, nT, .inl gT)), (lt, .inl (cE, 128, .inl gE))] sz) := by
  refine Met.ofW (cc := cX10_part) (maxL := 5) (ret := (some .boolean)) (by decide) rfl ?_
  intro p e s m args below meth c s₁ B hml hv
  obtain ⟨rfl, hsz, hP, hK, hD0, hX⟩ := hv
  have hx := B.exec
  have hb := B.bytes
  have hr := B.returns
  have hts := atoms_spec (ws := w_s_part10_2_0) B.pre
  have hown : s.vm.findClass RX10 = some m.cls := findClass_of_methodNamed B.named
  have hlocks := B.notSynchronized
  subst hsz
  have hD := hD0.self (sz := s.heap.size)
  generalize hAe : va_A [(jM, kMo vs (.ref lt) (.ref tx) (.int (nI (be))) (.int (nI (en))) (.int (nI (a))) (.int (-1)) (.int 2) v14 v15 (.ref q6) (.ref q7) v18), (tx, .inl (cT, nT, .inl gT)), (lt, .inl (cE, 128, .inl gE))] s.heap.size = A at hD hX ⊢
  have hA : ∀ q : Nat, s.heap.size ≤ q → A q := fun q h => by rw [← hAe]; exact Or.inr h
  have hS : va_S A s.heap s.heap [] := va_S.rf
  have hP : va_P (dC, dI) vwCl [(jM, kMo vs (.ref lt) (.ref tx) (.int (nI (be))) (.int (nI (en))) (.int (nI (a))) (.int (-1)) (.int 2) v14 v15 (.ref q6) (.ref q7) v18), (tx, .inl (cT, nT, .inl gT)), (lt, .inl (cE, 128, .inl gE))] s.heap := hP
  have hl := lv_entry ([.ref jM, .int 0, .int p1]) (n := 5) (Nat.le_of_ble_eq_true rfl)
  rw [lg_entry_eq]
  generalize (lg_sl ([.ref jM, .int 0, .int p1]) ++ List.replicate (5 - (lg_sl ([.ref jM, .int 0, .int p1])).length) Slot.unset).toArray = ls at hl ⊢
  have hl : lv_has ls 5 [(0, .ref jM), (1, .int 0), (2, .int p1)] := hl
  refine kQ (fun Q hQ => ?_)
  refine lv_iload_n hx hb dX10_part_0 rfl (lv_at hl 1 rfl) ?_
  refine lv_if_eq (tgt := 13) hx hb dX10_part_1 (by decide) (fun c_1 => ?_) (fun c_1 => absurd (by decide) c_1)
  refine lv_aload_n hx hb dX10_part_13 rfl (lv_at hl 0 rfl) ?_
  obtain ⟨hPc, hDc, hFc⟩ := kCut (wc := [(jM, kMo vs (.ref lt) (.ref tx) (.int (nI (be))) (.int (nI (en))) (.int (nI (a))) (.int (-1)) (.int 2) v14 v15 (.ref q6) (.ref q7) v18), (tx, .inl (cT, nT, .inl gT)), (lt, .inl (cE, 128, .inl gE))]) hP hD hS hA [0, 1, 2] rfl (by decide) rfl
  have hKc := hK.sb (tys2 := [(cT, .byte), (cE, .int)]) [0, 1] rfl
  refine va_calli (va_runV (As := []) (rest := []) ⟨hx, hb, hml, hown, hts⟩ (s_unit10_2 l dC dI jM vs (v14 : Value) (v15 : Value) (v18 : Value) lt q6 q7 tx cT nT gT be en a (by omega) (by omega) (by omega) cE gE b6 n6 g6 hn6 hg6 b7 n7 g7 hn7 hg7 s.heap.size) (cwV 0 hts (kG (List.forall_mem_cons.mpr ⟨(List.mem_cons_of_mem _ (List.mem_append_left _ (List.mem_of_getElem? (i := 44) rfl))), (List.forall_mem_cons.mpr ⟨(List.mem_cons_of_mem _ (List.mem_append_left _ (List.mem_of_getElem? (i := 43) rfl))), (List.forall_mem_cons.mpr ⟨(List.mem_cons_of_mem _ (List.mem_append_left _ (List.mem_of_getElem? (i := 42) rfl))), (List.forall_mem_cons.mpr ⟨(List.mem_cons_of_mem _ (List.mem_append_left _ (List.mem_of_getElem? (i := 0) rfl))), (fun _ h => absurd h List.not_mem_nil)⟩)⟩)⟩)⟩) (kGV _ _ _ _) (kFam (List.mem_cons_of_mem _ (List.mem_append_left _ (List.mem_of_getElem? (i := 41) rfl)))) gw_s_unit10_2) rfl rfl rfl ⟨rfl, hd_X10_unit⟩ ⟨(Nat.le_of_ble_eq_true rfl), (Nat.le_of_ble_eq_true rfl)⟩) (kW_V kS2_blind (kS2_give hX hS hFc) (va_recv hKc hPc (ci := 10) (q0 := 0) rfl rfl) hPc hKc hDc) rfl rfl hl.1 rfl (lv_room (Nat.le_of_ble_eq_true rfl)) dX10_part_14 ⟨(Nat.le_of_ble_eq_true rfl), (Nat.le_of_ble_eq_true rfl)⟩) hS (fun q _ h => hFc q h) hFc (fun r_2 u t H1 locs ht hvm hw hB hz1 hk1 hS => ?_)
  obtain ⟨a1_3, xf_4, xd_5⟩ := u
  obtain ⟨hP1, hK1, hD1⟩ := hB
  rw [ht] at hP1
  try dsimp only at hw
  obtain ⟨hP, hD⟩ : kPD dC dI A [(jM, kMo vs (.ref lt) (.ref tx) (.int (nI (be))) (.int (nI (en))) (.int (nI (a1_3))) (.int xf_4) (.int xd_5) (v14 : Value) (v15 : Value) (.ref q6) (.ref q7) (v18 : Value)), (tx, .inl (cT, nT, .inl gT)), (lt, .inl (cE, 128, .inl gE))] H1 := kJoinI hP hD [0, 1, 2] rfl hk1 hFc hP1 hD1 rfl [some 0, some 1, some 2] rfl rfl
  generalize H1 = H at hP hS ⊢
  have hw_6 := hw
  have hw_6_a := hw_6.2.1
  have hw_6_b := hw_6.1
  refine lv_istore_n hx hb dX10_part_17 rfl hl (by decide) (kTo [(3, .int r_2), (0, .ref jM), (1, .int 0), (2, .int p1)]) (fun ls hl => ?_)
  have lp_k_7 : ∀ (n9 : Nat) (i : Nat) (lf : Int32) (ld : Int32) (xb : Int32) (ivk_7_0 : (a ≤ i ∧ i ≤ en)) (ivk_7_1 : (lf = -1 → ld = 2)) (ivk_7_2 : (xb = 0 ∨ xb = 1)) (H : Heap) (locs : List Loc) (_ : va_P (dC, dI) vwCl [(jM, kMo vs (.ref lt) (.ref tx) (.int (nI (be))) (.int (nI (en))) (.int (nI (i))) (.int lf) (.int ld) (v14 : Value) (v15 : Value) (.ref q6) (.ref q7) (v18 : Value)), (tx, .inl (cT, nT, .inl gT)), (lt, .inl (cE, 128, .inl gE))] H) (_ : va_D A [(jM, kMo vs (.ref lt) (.ref tx) (.int (nI (be))) (.int (nI (en))) (.int (nI (i))) (.int lf) (.int ld) (v14 : Value) (v15 : Value) (.ref q6) (.ref q7) (v18 : Value)), (tx, .inl (cT, nT, .inl gT)), (lt, .inl (cE, 128, .inl gE))]) (_ : va_S A s.heap H locs) (ls : Array Slot) (_ : lv_has ls 5 [(3, .int xb), (0, .ref jM), (1, .int 0), (2, .int p1)]) (_ : en - i < n9), W p l e (headSpec w_s_part10_2_0 ({ frames := 40, cells := 0, slots := 0, locals := 2400 })).room s m (#[.ref jM, .int 0, .int p1] : Array Value) below meth c H locs 0 0 Q (F0 m 18 ls []) := by
    intro n9
    induction n9 with
    | zero => intro i lf ld xb ivk_7_0 ivk_7_1 ivk_7_2 H locs hP hD hS ls hl hm9; exact absurd hm9 (Nat.not_lt_zero _)
    | succ n9 ih_k_7 =>
      intro i lf ld xb ivk_7_0 ivk_7_1 ivk_7_2 H locs hP hD hS ls hl hm9
      refine lv_aload_n hx hb dX10_part_18 rfl (lv_at hl 1 rfl) ?_
      refine va_get (D := (dC, dI)) (ci := 10) (v := .int lf) (C := RX10) (T := TX10) (N := 52) hx hb hts (fun _ h => List.mem_cons_of_mem _ (List.mem_append_right _ (List.mem_append_right _ (List.mem_append_left _ h)))) hown hK hP 0 rfl rfl 12 (by decide) (hts (.fieldLink RX10 150 "NotEndedModel" "fault" "I") (List.mem_cons_of_mem _ (List.mem_append_left _ (List.mem_of_getElem? (i := 10) rfl)))) (fun _ h9 => h9) rfl dX10_part_19 ?_
      refine lv_iconst (v := (-1)) hx hb dX10_part_22 (by decide) ?_
      refine lv_icmp_ne (tgt := 69) hx hb dX10_part_23 (by decide) (fun c_8 => ?_) (fun c_8 => ?_)
      · refine lv_iload_n hx hb dX10_part_69 rfl (lv_at hl 0 rfl) ?_
        have hP9 := hP
        have hD9 := hD
        have hK9 := hK
        rw [hQ]
        exact W.zret (v := xb) hx hb hr (kB01 (by assumption)) (fun t ht hW => ⟨⟨xb, (i, lf, ld), rfl, ⟨(by assumption), by omega, ivk_7_1⟩,  by rw [ht]; exact hP9, va_K.moved hW.alike hK9, hD9⟩, hS.F ht⟩) hS.2.2 dX10_part_70
      · have e_9 := ivk_7_1 c_8
        subst e_9
        subst c_8
        refine lv_aload_n hx hb dX10_part_26 rfl (lv_at hl 1 rfl) ?_
        obtain ⟨hPc, hDc, hFc⟩ := kCut (wc := [(jM, kMo vs (.ref lt) (.ref tx) (.int (nI (be))) (.int (nI (en))) (.int (nI (i))) (.int (-1)) (.int 2) (v14 : Value) (v15 : Value) (.ref q6) (.ref q7) (v18 : Value)), (tx, .inl (cT, nT, .inl gT))]) hP hD hS hA [0, 1] rfl (by decide) rfl
        have hKc := hK.sb (tys2 := [(cT, .byte)]) [0] rfl
        refine va_calli (va_runV (As := []) (rest := []) ⟨hx, hb, hml, hown, hts⟩ (s_look10 l dC dI jM vs (.int (-1) : Value) (.int 2 : Value) ((v14 : Value) : Value) ((v15 : Value) : Value) ((v18 : Value) : Value) lt q6 q7 tx cT nT gT be en i (by omega) (by omega) (by omega) H.size) (cwV 0 hts (kG (List.forall_mem_cons.mpr ⟨(List.mem_cons_of_mem _ (List.mem_append_left _ (List.mem_of_getElem? (i := 3) rfl))), (List.forall_mem_cons.mpr ⟨(List.mem_cons_of_mem _ (List.mem_append_left _ (List.mem_of_getElem? (i := 2) rfl))), (List.forall_mem_cons.mpr ⟨(List.mem_cons_of_mem _ (List.mem_append_left _ (List.mem_of_getElem? (i := 1) rfl))), (List.forall_mem_cons.mpr ⟨(List.mem_cons_of_mem _ (List.mem_append_left _ (List.mem_of_getElem? (i := 0) rfl))), (fun _ h => absurd h List.not_mem_nil)⟩)⟩)⟩)⟩) (kGV _ _ _ _) (fun _ h => List.mem_cons_of_mem _ (List.mem_append_right _ (List.mem_append_left _ h))) gw_s_look10) rfl rfl rfl ⟨rfl, hd_X10_look⟩ ⟨(Nat.le_of_ble_eq_true rfl), (Nat.le_of_ble_eq_true rfl)⟩) (kW_V kT_blind kT_give (va_recv hKc hPc (ci := 10) (q0 := 0) rfl rfl) hPc hKc hDc) rfl rfl hl.1 rfl (lv_room (Nat.le_of_ble_eq_true rfl)) dX10_part_27 ⟨(Nat.le_of_ble_eq_true rfl), (Nat.le_of_ble_eq_true rfl)⟩) hS (fun q _ h => hFc q h) hFc (fun r_10 u t H1 locs ht hvm hw hB hz1 hk1 hS => ?_)
        obtain ⟨a1_11, rfl⟩ : ∃ z, z = u := ⟨_, rfl⟩
        obtain ⟨hP1, hK1, hD1⟩ := hB
        rw [ht] at hP1
        try dsimp only at hw
        obtain ⟨hP, hD⟩ : kPD dC dI A [(jM, kMo vs (.ref lt) (.ref tx) (.int (nI (be))) (.int (nI (en))) (.int (nI (a1_11))) (.int (-1)) (.int 2) ((v14 : Value) : Value) ((v15 : Value) : Value) (.ref q6) (.ref q7) ((v18 : Value) : Value)), (tx, .inl (cT, nT, .inl gT)), (lt, .inl (cE, 128, .inl gE))] H1 := kJoinI hP hD [0, 1] rfl hk1 hFc hP1 hD1 rfl [some 0, some 1, none] rfl rfl
        generalize H1 = H at hP hS ⊢
        have hw_12 := hw
        have hw_12_3 := hw_12.2.1
        refine lv_bipush (v := 38) hx hb dX10_part_30 (by decide) ?_
        refine lv_icmp_ne (tgt := 69) hx hb dX10_part_32 (by decide) (fun c_13 => ?_) (fun c_13 => ?_)
        · refine lv_iload_n hx hb dX10_part_69 rfl (lv_at hl 0 rfl) ?_
          have hP9 := hP
          have hD9 := hD
          have hK9 := hK
          rw [hQ]
          exact W.zret (v := xb) hx hb hr (kB01 (by assumption)) (fun t ht hW => ⟨⟨xb, (a1_11, (-1), 2), rfl, ⟨(by assumption), by omega, (fun _ => rfl)⟩,  by rw [ht]; exact hP9, va_K.moved hW.alike hK9, hD9⟩, hS.F ht⟩) hS.2.2 dX10_part_70
        · have hns_14 := hw_12.1.resolve_left (fun z9 => absurd (c_13.symm.trans z9) (by decide))
          have hns_14_1 := hns_14.1
          refine lv_aload_n hx hb dX10_part_35 rfl (lv_at hl 1 rfl) ?_
          refine lv_dup hx hb dX10_part_36 rfl ?_
          refine va_get (D := (dC, dI)) (ci := 10) (v := .int (nI (a1_11))) (C := RX10) (T := TX10) (N := 52) hx hb hts (fun _ h => List.mem_cons_of_mem _ (List.mem_append_right _ (List.mem_append_right _ (List.mem_append_left _ h)))) hown hK hP 0 rfl rfl 11 (by decide) (hts (.fieldLink RX10 141 "NotEndedModel" "at" "I") (List.mem_cons_of_mem _ (List.mem_append_left _ (List.mem_of_getElem? (i := 13) rfl)))) (fun _ h9 => h9) rfl dX10_part_37 ?_
          refine lv_iconst (v := 1) hx hb dX10_part_40 (by decide) ?_
          refine lv_iadd hx hb dX10_part_41 ?_
          refine lv_topi (fun y_15 ey_15 => ?_)
          obtain rfl : y_15 = nI (a1_11 + 1) := ey_15.trans (nI_add (a1_11) (1))
          refine va_put (D := (dC, dI)) (ci := 10) (v := .int (nI (a1_11 + 1))) (ty := tyX10 11) (C := RX10) (T := TX10) (N := 52) hx hb hts (fun _ h => List.mem_cons_of_mem _ (List.mem_append_right _ (List.mem_append_right _ (List.mem_append_left _ h)))) tyX10 tyX10_ok nmX10 hown hK hP hD hS 0 rfl rfl 11 (by decide) (hts (.fieldLink RX10 141 "NotEndedModel" "at" "I") (List.mem_cons_of_mem _ (List.mem_append_left _ (List.mem_of_getElem? (i := 13) rfl)))) (fun _ h9 => h9) rfl (tyX10_ok 11 (by decide)) rfl rfl (Nat.le_of_ble_eq_true rfl) dX10_part_42 (fun H locs hP hD hS => ?_)
          obtain ⟨hP, hD⟩ : kPD dC dI A [(jM, kMo vs (.ref lt) (.ref tx) (.int (nI (be))) (.int (nI (en))) (.int (nI (a1_11 + 1))) (.int (-1)) (.int 2) ((v14 : Value) : Value) ((v15 : Value) : Value) (.ref q6) (.ref q7) ((v18 : Value) : Value)), (tx, .inl (cT, nT, .inl gT)), (lt, .inl (cE, 128, .inl gE))] H := ⟨hP, hD⟩
          refine lv_aload_n hx hb dX10_part_45 rfl (lv_at hl 1 rfl) ?_
          obtain ⟨hPc, hDc, hFc⟩ := kCut (wc := [(jM, kMo vs (.ref lt) (.ref tx) (.int (nI (be))) (.int (nI (en))) (.int (nI (a1_11 + 1))) (.int (-1)) (.int 2) ((v14 : Value) : Value) ((v15 : Value) : Value) (.ref q6) (.ref q7) ((v18 : Value) : Value)), (tx, .inl (cT, nT, .inl gT)), (lt, .inl (cE, 128, .inl gE))]) hP hD hS hA [0, 1, 2] rfl (by decide) rfl
          have hKc := hK.sb (tys2 := [(cT, .byte), (cE, .int)]) [0, 1] rfl
          refine va_calli (va_runV (As := []) (rest := []) ⟨hx, hb, hml, hown, hts⟩ (s_unit10_2 l dC dI jM vs (((v14 : Value) : Value) : Value) (((v15 : Value) : Value) : Value) (((v18 : Value) : Value) : Value) lt q6 q7 tx cT nT gT be en (a1_11 + 1) (by omega) (by omega) (by omega) cE gE b6 n6 g6 hn6 hg6 b7 n7 g7 hn7 hg7 H.size) (cwV 0 hts (kG (List.forall_mem_cons.mpr ⟨(List.mem_cons_of_mem _ (List.mem_append_left _ (List.mem_of_getElem? (i := 44) rfl))), (List.forall_mem_cons.mpr ⟨(List.mem_cons_of_mem _ (List.mem_append_left _ (List.mem_of_getElem? (i := 43) rfl))), (List.forall_mem_cons.mpr ⟨(List.mem_cons_of_mem _ (List.mem_append_left _ (List.mem_of_getElem? (i := 42) rfl))), (List.forall_mem_cons.mpr ⟨(List.mem_cons_of_mem _ (List.mem_append_left _ (List.mem_of_getElem? (i := 0) rfl))), (fun _ h => absurd h List.not_mem_nil)⟩)⟩)⟩)⟩) (kGV _ _ _ _) (kFam (List.mem_cons_of_mem _ (List.mem_append_left _ (List.mem_of_getElem? (i := 41) rfl)))) gw_s_unit10_2) rfl rfl rfl ⟨rfl, hd_X10_unit⟩ ⟨(Nat.le_of_ble_eq_true rfl), (Nat.le_of_ble_eq_true rfl)⟩) (kW_V kS2_blind (kS2_give hX hS hFc) (va_recv hKc hPc (ci := 10) (q0 := 0) rfl rfl) hPc hKc hDc) rfl rfl hl.1 rfl (lv_room (Nat.le_of_ble_eq_true rfl)) dX10_part_46 ⟨(Nat.le_of_ble_eq_true rfl), (Nat.le_of_ble_eq_true rfl)⟩) hS (fun q _ h => hFc q h) hFc (fun r_16 u t H1 locs ht hvm hw hB hz1 hk1 hS => ?_)
          obtain ⟨a1_17, xf_18, xd_19⟩ := u
          obtain ⟨hP1, hK1, hD1⟩ := hB
          rw [ht] at hP1
          try dsimp only at hw
          obtain ⟨hP, hD⟩ : kPD dC dI A [(jM, kMo vs (.ref lt) (.ref tx) (.int (nI (be))) (.int (nI (en))) (.int (nI (a1_17))) (.int xf_18) (.int xd_19) (((v14 : Value) : Value) : Value) (((v15 : Value) : Value) : Value) (.ref q6) (.ref q7) (((v18 : Value) : Value) : Value)), (tx, .inl (cT, nT, .inl gT)), (lt, .inl (cE, 128, .inl gE))] H1 := kJoinI hP hD [0, 1, 2] rfl hk1 hFc hP1 hD1 rfl [some 0, some 1, some 2] rfl rfl
          generalize H1 = H at hP hS ⊢
          have hw_20 := hw
          have hw_20_a := hw_20.2.1
          have hw_20_b := hw_20.1
          refine lv_istore hx hb dX10_part_49 hl (by decide) (kTo [(4, .int r_16), (3, .int xb), (0, .ref jM), (1, .int 0), (2, .int p1)]) (fun ls hl => ?_)
          refine lv_iload_n hx hb dX10_part_51 rfl (lv_at hl 1 rfl) ?_
          refine lv_if_eq (tgt := 64) hx hb dX10_part_52 (by decide) (fun c_21 => ?_) (fun c_21 => ?_)
          · refine lv_iconst (v := 0) hx hb dX10_part_64 (by decide) ?_
            refine lv_istore_n hx hb dX10_part_65 rfl hl (by decide) (kTo [(3, .int 0), (4, .int r_16), (0, .ref jM), (1, .int 0), (2, .int p1)]) (fun ls hl => ?_)
            refine lv_goto (tgt := 18) hx hb dX10_part_66 (by decide) ?_
            exact ih_k_7 a1_17 xf_18 xd_19 0 (by omega) hw_20.2.2 (Or.inl rfl) _ _ hP hD hS ls (lv_sub hl [0, 2, 3, 4] rfl) (by omega)
          · refine lv_iload hx hb dX10_part_55 (lv_at hl 0 rfl) ?_
            refine lv_if_eq (tgt := 64) hx hb dX10_part_57 (by decide) (fun c_22 => ?_) (fun c_22 => ?_)
            · refine lv_iconst (v := 0) hx hb dX10_part_64 (by decide) ?_
              refine lv_istore_n hx hb dX10_part_65 rfl hl (by decide) (kTo [(3, .int 0), (4, .int r_16), (0, .ref jM), (1, .int 0), (2, .int p1)]) (fun ls hl => ?_)
              refine lv_goto (tgt := 18) hx hb dX10_part_66 (by decide) ?_
              exact ih_k_7 a1_17 xf_18 xd_19 0 (by omega) hw_20.2.2 (Or.inl rfl) _ _ hP hD hS ls (lv_sub hl [0, 2, 3, 4] rfl) (by omega)
            · refine lv_iconst (v := 1) hx hb dX10_part_60 (by decide) ?_
              refine lv_goto (tgt := 65) hx hb dX10_part_61 (by decide) ?_
              refine lv_istore_n hx hb dX10_part_65 rfl hl (by decide) (kTo [(3, .int 1), (4, .int r_16), (0, .ref jM), (1, .int 0), (2, .int p1)]) (fun ls hl => ?_)
              refine lv_goto (tgt := 18) hx hb dX10_part_66 (by decide) ?_
              exact ih_k_7 a1_17 xf_18 xd_19 1 (by omega) hw_20.2.2 (Or.inr rfl) _ _ hP hD hS ls (lv_sub hl [0, 2, 3, 4] rfl) (by omega)
  exact lp_k_7 (en - a1_3 + 1) a1_3 xf_4 xd_5 r_2 (by omega) hw_6.2.2 hw_6.1 _ _ hP hD hS ls (lv_sub hl [0, 1, 2, 3] rfl) (by omega)

def w_s_part10_2_1 : List Cond := .code yX10_part cX10_part 5 (some .boolean) :: wf_md
theorem gw_s_part10_2_1 : (w_s_part10_2_1).all goodWord = true := kFamG rfl gf_md
set_option maxHeartbeats 4000000 in
set_option maxRecDepth 100000 in
theorem s_part10_2_1 (l : Launch) (dC : Nat → ClassId) (dI : Nat → Nat → Nat) (jM : Nat) (vs : Nat → Value) (v14 : Value) (v15 : Value) (v18 : Value) (lt : Nat) (q6 : Nat) (q7 : Nat) (tx : Nat) (cT : ClassId) (nT : Nat) (gT : Nat → Int32) (be : Nat) (en : Nat) (a : Nat) (hbe : be + en ≤ nT) (hnT : nT ≤ 1680) (ha : a ≤ en) (cE : ClassId) (gE : Nat → Int32) (b6 : Nat) (n6 : Nat) (g6 : Nat → Int32) (hn6 : n6 ≤ 8) (hg6 : ∀ k : Nat, ∃ v : Nat, v < 128 ∧ g6 k = nI v) (b7 : Nat) (n7 : Nat) (g7 : Nat → Int32) (hn7 : n7 ≤ 8) (hg7 : ∀ k : Nat, ∃ v : Nat, v < 128 ∧ g7 k = nI v) (p1 : Int32) (sz : Nat) : Met l yX10_part w_s_part10_2_1 ({ frames := 40, cells := 0, slots := 0, locals := 2400 }) (kW dC dI [.ref jM, .int 1, .int p1] [(jM, kMo vs (.ref lt) (.ref tx) (.int (nI (be))) (.int (nI (en))) (.int (nI (a))) (.int (-1)) (.int 2) v14 v15 (.ref q6) (.ref q7) v18), (tx, .inl (cT, nT, .inl gT)), (lt, .inl (cE, 128, .inl gE))] [(cT, .byte), (cE, .int)] (kS2 q6 b6 n6 g6 q7 b7 n7 g7 (va_A [(jM, kMo vs (.ref lt) (.ref tx) (.int (nI (be))) (.int (nI (en))) (.int (nI (a))) (.int (-1)) (.int 2) v14 v15 (.ref q6) (.ref q7) v18), (tx, .inl (cT, nT, .inl gT)), (lt, .inl (cE, 128, .inl gE))] sz)) sz) (va_Qi (fun (r : Int32) (u : Nat × Int32 × Int32) => match u with | (a1, xf, xd) => ((r = 0 ∨ r = 1) ∧ (a ≤ a1 ∧ a1 ≤ en) ∧ (xf = -1 → xd = 2))) (fun (u : Nat × Int32 × Int32) => match u with | (a1, xf, xd) => fun t : State => kB dC dI [(jM, kMo vs (.ref lt) (.ref tx) (.int (nI (be))) (.int (nI (en))) (.int (nI (a1))) (.int xf) (.int xd) v14 v15 (.ref q6) (.ref q7) v18), (tx, .inl (cT, nT, .inl gT)), (lt, .inl (cE, 128, .inl gE))] [(cT, .byte), (cE, .int)] (va_A [(jM, kMo vs (.ref lt) (.ref tx) (.int (nI (be))) (.int (nI (en))) (.int (nI (a))) (.int (-1)) (.int 2) v14 v15 (.ref q6) (.ref q7) v18), (tx, .inl (cT, nT, .inl gT)), (lt, .inl (cE, 128, .inl gE))] sz) t) (va_A [(jM, kMo vs (.ref lt) (.ref tx) (.int (nI (be))) (.int (nI (en))) (.int (nI (a))) (.int (-1)) (.int 2) v14 v15 (.ref q6) (.ref q7) v18), (tx, .inl (cT, nT, .inl gT)), (lt, .inl (cE, 128, .inl gE))] sz)) 0 0 (va_A [(jM, kMo vs (.ref lt) (.ref tx) (.int (nI (be))) (.int (nI (en))) (.int (nI (a))) (.int (-1)) (.int 2) v14 v15 (.ref q6) (.ref q7) v18), (tx, .inl (cT, nT, .inl gT)), (lt, .inl (cE, 128, .inl gE))] sz) := by
  refine Met.ofW (cc := cX10_part) (maxL := 5) (ret := (some .boolean)) (by decide) rfl ?_
  intro p e s m args below meth c s₁ B hml hv
  obtain ⟨rfl, hsz, hP, hK, hD0, hX⟩ := hv
  have hx := B.exec
  have hb := B.bytes
  have hr := B.returns
  have hts := atoms_spec (ws := w_s_part10_2_1) B.pre
  have hown : s.vm.findClass RX10 = some m.cls := findClass_of_methodNamed B.named
  have hlocks := B.notSynchronized
  subst hsz
  have hD := hD0.self (sz := s.heap.size)
  generalize hAe : va_A [(jM, kMo vs (.ref lt) (.ref tx) (.int (nI (be))) (.int (nI (en))) (.int (nI (a))) (.int (-1)) (.int 2) v14 v15 (.ref q6) (.ref q7) v18), (tx, .inl (cT, nT, .inl gT)), (lt, .inl (cE, 128, .inl gE))] s.heap.size = A at hD hX ⊢
  have hA : ∀ q : Nat, s.heap.size ≤ q → A q := fun q h => by rw [← hAe]; exact Or.inr h
  have hS : va_S A s.heap s.heap [] := va_S.rf
  have hP : va_P (dC, dI) vwCl [(jM, kMo vs (.ref lt) (.ref tx) (.int (nI (be))) (.int (nI (en))) (.int (nI (a))) (.int (-1)) (.int 2) v14 v15 (.ref q6) (.ref q7) v18), (tx, .inl (cT, nT, .inl gT)), (lt, .inl (cE, 128, .inl gE))] s.heap := hP
  have hl := lv_entry ([.ref jM, .int 1, .int p1]) (n := 5) (Nat.le_of_ble_eq_true rfl)
  rw [lg_entry_eq]
  generalize (lg_sl ([.ref jM, .int 1, .int p1]) ++ List.replicate (5 - (lg_sl ([.ref jM, .int 1, .int p1])).length) Slot.unset).toArray = ls at hl ⊢
  have hl : lv_has ls 5 [(0, .ref jM), (1, .int 1), (2, .int p1)] := hl
  refine kQ (fun Q hQ => ?_)
  refine lv_iload_n hx hb dX10_part_0 rfl (lv_at hl 1 rfl) ?_
  refine lv_if_eq (tgt := 13) hx hb dX10_part_1 (by decide) (fun c_1 => absurd c_1 (by decide)) (fun c_1 => ?_)
  refine lv_aload_n hx hb dX10_part_4 rfl (lv_at hl 0 rfl) ?_
  refine lv_iconst (v := 1) hx hb dX10_part_5 (by decide) ?_
  refine lv_iload_n hx hb dX10_part_6 rfl (lv_at hl 2 rfl) ?_
  obtain ⟨hPc, hDc, hFc⟩ := kCut (wc := [(jM, kMo vs (.ref lt) (.ref tx) (.int (nI (be))) (.int (nI (en))) (.int (nI (a))) (.int (-1)) (.int 2) v14 v15 (.ref q6) (.ref q7) v18), (tx, .inl (cT, nT, .inl gT)), (lt, .inl (cE, 128, .inl gE))]) hP hD hS hA [0, 1, 2] rfl (by decide) rfl
  have hKc := hK.sb (tys2 := [(cT, .byte), (cE, .int)]) [0, 1] rfl
  refine va_calli (va_runV (As := [.int 1, .int p1]) (rest := []) ⟨hx, hb, hml, hown, hts⟩ (s_comp10_2_1 l dC dI jM vs (v14 : Value) (v15 : Value) (v18 : Value) lt q6 q7 tx cT nT gT be en a (by omega) (by omega) (by omega) cE gE b6 n6 g6 hn6 hg6 b7 n7 g7 hn7 hg7 p1 s.heap.size) (cwV 2 hts (kG (List.forall_mem_cons.mpr ⟨(List.mem_cons_of_mem _ (List.mem_append_left _ (List.mem_of_getElem? (i := 40) rfl))), (List.forall_mem_cons.mpr ⟨(List.mem_cons_of_mem _ (List.mem_append_left _ (List.mem_of_getElem? (i := 39) rfl))), (List.forall_mem_cons.mpr ⟨(List.mem_cons_of_mem _ (List.mem_append_left _ (List.mem_of_getElem? (i := 38) rfl))), (List.forall_mem_cons.mpr ⟨(List.mem_cons_of_mem _ (List.mem_append_left _ (List.mem_of_getElem? (i := 0) rfl))), (fun _ h => absurd h List.not_mem_nil)⟩)⟩)⟩)⟩) (kGV _ _ _ _) (kFam (List.mem_cons_of_mem _ (List.mem_append_left _ (List.mem_of_getElem? (i := 37) rfl)))) gw_s_comp10_2_1) rfl rfl rfl ⟨rfl, hd_X10_compares⟩ ⟨(Nat.le_of_ble_eq_true rfl), (Nat.le_of_ble_eq_true rfl)⟩) (kW_V kS2_blind (kS2_give hX hS hFc) (va_recv hKc hPc (ci := 10) (q0 := 0) rfl rfl) hPc hKc hDc) rfl rfl hl.1 rfl (lv_room (Nat.le_of_ble_eq_true rfl)) dX10_part_7 ⟨(Nat.le_of_ble_eq_true rfl), (Nat.le_of_ble_eq_true rfl)⟩) hS (fun q _ h => hFc q h) hFc (fun r_2 u t H1 locs ht hvm hw hB hz1 hk1 hS => ?_)
  obtain ⟨a1_3, xf_4, xd_5⟩ := u
  obtain ⟨hP1, hK1, hD1⟩ := hB
  rw [ht] at hP1
  try dsimp only at hw
  obtain ⟨hP, hD⟩ : kPD dC dI A [(jM, kMo vs (.ref lt) (.ref tx) (.int (nI (be))) (.int (nI (en))) (.int (nI (a1_3))) (.int xf_4) (.int xd_5) (v14 : Value) (v15 : Value) (.ref q6) (.ref q7) (v18 : Value)), (tx, .inl (cT, nT, .inl gT)), (lt, .inl (cE, 128, .inl gE))] H1 := kJoinI hP hD [0, 1, 2] rfl hk1 hFc hP1 hD1 rfl [some 0, some 1, some 2] rfl rfl
  generalize H1 = H at hP hS ⊢
  have hw_6 := hw
  have hw_6_a := hw_6.2.1
  have hw_6_b := hw_6.1
  refine lv_goto (tgt := 17) hx hb dX10_part_10 (by decide) ?_
  refine lv_istore_n hx hb dX10_part_17 rfl hl (by decide) (kTo [(3, .int r_2), (0, .ref jM), (1, .int 1), (2, .int p1)]) (fun ls hl => ?_)
  have lp_k_7 : ∀ (n9 : Nat) (i : Nat) (lf : Int32) (ld : Int32) (xb : Int32) (ivk_7_0 : (a ≤ i ∧ i ≤ en)) (ivk_7_1 : (lf = -1 → ld = 2)) (ivk_7_2 : (xb = 0 ∨ xb = 1)) (H : Heap) (locs : List Loc) (_ : va_P (dC, dI) vwCl [(jM, kMo vs (.ref lt) (.ref tx) (.int (nI (be))) (.int (nI (en))) (.int (nI (i))) (.int lf) (.int ld) (v14 : Value) (v15 : Value) (.ref q6) (.ref q7) (v18 : Value)), (tx, .inl (cT, nT, .inl gT)), (lt, .inl (cE, 128, .inl gE))] H) (_ : va_D A [(jM, kMo vs (.ref lt) (.ref tx) (.int (nI (be))) (.int (nI (en))) (.int (nI (i))) (.int lf) (.int ld) (v14 : Value) (v15 : Value) (.ref q6) (.ref q7) (v18 : Value)), (tx, .inl (cT, nT, .inl gT)), (lt, .inl (cE, 128, .inl gE))]) (_ : va_S A s.heap H locs) (ls : Array Slot) (_ : lv_has ls 5 [(3, .int xb), (0, .ref jM), (1, .int 1), (2, .int p1)]) (_ : en - i < n9), W p l e (headSpec w_s_part10_2_1 ({ frames := 40, cells := 0, slots := 0, locals := 2400 })).room s m (#[.ref jM, .int 1, .int p1] : Array Value) below meth c H locs 0 0 Q (F0 m 18 ls []) := by
    intro n9
    induction n9 with
    | zero => intro i lf ld xb ivk_7_0 ivk_7_1 ivk_7_2 H locs hP hD hS ls hl hm9; exact absurd hm9 (Nat.not_lt_zero _)
    | succ n9 ih_k_7 =>
      intro i lf ld xb ivk_7_0 ivk_7_1 ivk_7_2 H locs hP hD hS ls hl hm9
      refine lv_aload_n hx hb dX10_part_18 rfl (lv_at hl 1 rfl) ?_
      refine va_get (D := (dC, dI)) (ci := 10) (v := .int lf) (C := RX10) (T := TX10) (N := 52) hx hb hts (fun _ h => List.mem_cons_of_mem _ (List.mem_append_right _ (List.mem_append_right _ (List.mem_append_left _ h)))) hown hK hP 0 rfl rfl 12 (by decide) (hts (.fieldLink RX10 150 "NotEndedModel" "fault" "I") (List.mem_cons_of_mem _ (List.mem_append_left _ (List.mem_of_getElem? (i := 10) rfl)))) (fun _ h9 => h9) rfl dX10_part_19 ?_
      refine lv_iconst (v := (-1)) hx hb dX10_part_22 (by decide) ?_
      refine lv_icmp_ne (tgt := 69) hx hb dX10_part_23 (by decide) (fun c_8 => ?_) (fun c_8 => ?_)
      · refine lv_iload_n hx hb dX10_part_69 rfl (lv_at hl 0 rfl) ?_
        have hP9 := hP
        have hD9 := hD
        have hK9 := hK
        rw [hQ]
        exact W.zret (v := xb) hx hb hr (kB01 (by assumption)) (fun t ht hW => ⟨⟨xb, (i, lf, ld), rfl, ⟨(by assumption), by omega, ivk_7_1⟩,  by rw [ht]; exact hP9, va_K.moved hW.alike hK9, hD9⟩, hS.F ht⟩) hS.2.2 dX10_part_70
      · have e_9 := ivk_7_1 c_8
        subst e_9
        subst c_8
        refine lv_aload_n hx hb dX10_part_26 rfl (lv_at hl 1 rfl) ?_
        obtain ⟨hPc, hDc, hFc⟩ := kCut (wc := [(jM, kMo vs (.ref lt) (.ref tx) (.int (nI (be))) (.int (nI (en))) (.int (nI (i))) (.int (-1)) (.int 2) (v14 : Value) (v15 : Value) (.ref q6) (.ref q7) (v18 : Value)), (tx, .inl (cT, nT, .inl gT))]) hP hD hS hA [0, 1] rfl (by decide) rfl
        have hKc := hK.sb (tys2 := [(cT, .byte)]) [0] rfl
        refine va_calli (va_runV (As := []) (rest := []) ⟨hx, hb, hml, hown, hts⟩ (s_look10 l dC dI jM vs (.int (-1) : Value) (.int 2 : Value) ((v14 : Value) : Value) ((v15 : Value) : Value) ((v18 : Value) : Value) lt q6 q7 tx cT nT gT be en i (by omega) (by omega) (by omega) H.size) (cwV 0 hts (kG (List.forall_mem_cons.mpr ⟨(List.mem_cons_of_mem _ (List.mem_append_left _ (List.mem_of_getElem? (i := 3) rfl))), (List.forall_mem_cons.mpr ⟨(List.mem_cons_of_mem _ (List.mem_append_left _ (List.mem_of_getElem? (i := 2) rfl))), (List.forall_mem_cons.mpr ⟨(List.mem_cons_of_mem _ (List.mem_append_left _ (List.mem_of_getElem? (i := 1) rfl))), (List.forall_mem_cons.mpr ⟨(List.mem_cons_of_mem _ (List.mem_append_left _ (List.mem_of_getElem? (i := 0) rfl))), (fun _ h => absurd h List.not_mem_nil)⟩)⟩)⟩)⟩) (kGV _ _ _ _) (fun _ h => List.mem_cons_of_mem _ (List.mem_append_right _ (List.mem_append_left _ h))) gw_s_look10) rfl rfl rfl ⟨rfl, hd_X10_look⟩ ⟨(Nat.le_of_ble_eq_true rfl), (Nat.le_of_ble_eq_true rfl)⟩) (kW_V kT_blind kT_give (va_recv hKc hPc (ci := 10) (q0 := 0) rfl rfl) hPc hKc hDc) rfl rfl hl.1 rfl (lv_room (Nat.le_of_ble_eq_true rfl)) dX10_part_27 ⟨(Nat.le_of_ble_eq_true rfl), (Nat.le_of_ble_eq_true rfl)⟩) hS (fun q _ h => hFc q h) hFc (fun r_10 u t H1 locs ht hvm hw hB hz1 hk1 hS => ?_)
        obtain ⟨a1_11, rfl⟩ : ∃ z, z = u := ⟨_, rfl⟩
        obtain ⟨hP1, hK1, hD1⟩ := hB
        rw [ht] at hP1
        try dsimp only at hw
        obtain ⟨hP, hD⟩ : kPD dC dI A [(jM, kMo vs (.ref lt) (.ref tx) (.int (nI (be))) (.int (nI (en))) (.int (nI (a1_11))) (.int (-1)) (.int 2) ((v14 : Value) : Value) ((v15 : Value) : Value) (.ref q6) (.ref q7) ((v18 : Value) : Value)), (tx, .inl (cT, nT, .inl gT)), (lt, .inl (cE, 128, .inl gE))] H1 := kJoinI hP hD [0, 1] rfl hk1 hFc hP1 hD1 rfl [some 0, some 1, none] rfl rfl
        generalize H1 = H at hP hS ⊢
        have hw_12 := hw
        have hw_12_3 := hw_12.2.1
        refine lv_bipush (v := 38) hx hb dX10_part_30 (by decide) ?_
        refine lv_icmp_ne (tgt := 69) hx hb dX10_part_32 (by decide) (fun c_13 => ?_) (fun c_13 => ?_)
        · refine lv_iload_n hx hb dX10_part_69 rfl (lv_at hl 0 rfl) ?_
          have hP9 := hP
          have hD9 := hD
          have hK9 := hK
          rw [hQ]
          exact W.zret (v := xb) hx hb hr (kB01 (by assumption)) (fun t ht hW => ⟨⟨xb, (a1_11, (-1), 2), rfl, ⟨(by assumption), by omega, (fun _ => rfl)⟩,  by rw [ht]; exact hP9, va_K.moved hW.alike hK9, hD9⟩, hS.F ht⟩) hS.2.2 dX10_part_70
        · have hns_14 := hw_12.1.resolve_left (fun z9 => absurd (c_13.symm.trans z9) (by decide))
          have hns_14_1 := hns_14.1
          refine lv_aload_n hx hb dX10_part_35 rfl (lv_at hl 1 rfl) ?_
          refine lv_dup hx hb dX10_part_36 rfl ?_
          refine va_get (D := (dC, dI)) (ci := 10) (v := .int (nI (a1_11))) (C := RX10) (T := TX10) (N := 52) hx hb hts (fun _ h => List.mem_cons_of_mem _ (List.mem_append_right _ (List.mem_append_right _ (List.mem_append_left _ h)))) hown hK hP 0 rfl rfl 11 (by decide) (hts (.fieldLink RX10 141 "NotEndedModel" "at" "I") (List.mem_cons_of_mem _ (List.mem_append_left _ (List.mem_of_getElem? (i := 13) rfl)))) (fun _ h9 => h9) rfl dX10_part_37 ?_
          refine lv_iconst (v := 1) hx hb dX10_part_40 (by decide) ?_
          refine lv_iadd hx hb dX10_part_41 ?_
          refine lv_topi (fun y_15 ey_15 => ?_)
          obtain rfl : y_15 = nI (a1_11 + 1) := ey_15.trans (nI_add (a1_11) (1))
          refine va_put (D := (dC, dI)) (ci := 10) (v := .int (nI (a1_11 + 1))) (ty := tyX10 11) (C := RX10) (T := TX10) (N := 52) hx hb hts (fun _ h => List.mem_cons_of_mem _ (List.mem_append_right _ (List.mem_append_right _ (List.mem_append_left _ h)))) tyX10 tyX10_ok nmX10 hown hK hP hD hS 0 rfl rfl 11 (by decide) (hts (.fieldLink RX10 141 "NotEndedModel" "at" "I") (List.mem_cons_of_mem _ (List.mem_append_left _ (List.mem_of_getElem? (i := 13) rfl)))) (fun _ h9 => h9) rfl (tyX10_ok 11 (by decide)) rfl rfl (Nat.le_of_ble_eq_true rfl) dX10_part_42 (fun H locs hP hD hS => ?_)
          obtain ⟨hP, hD⟩ : kPD dC dI A [(jM, kMo vs (.ref lt) (.ref tx) (.int (nI (be))) (.int (nI (en))) (.int (nI (a1_11 + 1))) (.int (-1)) (.int 2) ((v14 : Value) : Value) ((v15 : Value) : Value) (.ref q6) (.ref q7) ((v18 : Value) : Value)), (tx, .inl (cT, nT, .inl gT)), (lt, .inl (cE, 128, .inl gE))] H := ⟨hP, hD⟩
          refine lv_aload_n hx hb dX10_part_45 rfl (lv_at hl 1 rfl) ?_
          obtain ⟨hPc, hDc, hFc⟩ := kCut (wc := [(jM, kMo vs (.ref lt) (.ref tx) (.int (nI (be))) (.int (nI (en))) (.int (nI (a1_11 + 1))) (.int (-1)) (.int 2) ((v14 : Value) : Value) ((v15 : Value) : Value) (.ref q6) (.ref q7) ((v18 : Value) : Value)), (tx, .inl (cT, nT, .inl gT)), (lt, .inl (cE, 128, .inl gE))]) hP hD hS hA [0, 1, 2] rfl (by decide) rfl
          have hKc := hK.sb (tys2 := [(cT, .byte), (cE, .int)]) [0, 1] rfl
          refine va_calli (va_runV (As := []) (rest := []) ⟨hx, hb, hml, hown, hts⟩ (s_unit10_2 l dC dI jM vs (((v14 : Value) : Value) : Value) (((v15 : Value) : Value) : Value) (((v18 : Value) : Value) : Value) lt q6 q7 tx cT nT gT be en (a1_11 + 1) (by omega) (by omega) (by omega) cE gE b6 n6 g6 hn6 hg6 b7 n7 g7 hn7 hg7 H.size) (cwV 0 hts (kG (List.forall_mem_cons.mpr ⟨(List.mem_cons_of_mem _ (List.mem_append_left _ (List.mem_of_getElem? (i := 44) rfl))), (List.forall_mem_cons.mpr ⟨(List.mem_cons_of_mem _ (List.mem_append_left _ (List.mem_of_getElem? (i := 43) rfl))), (List.forall_mem_cons.mpr ⟨(List.mem_cons_of_mem _ (List.mem_append_left _ (List.mem_of_getElem? (i := 42) rfl))), (List.forall_mem_cons.mpr ⟨(List.mem_cons_of_mem _ (List.mem_append_left _ (List.mem_of_getElem? (i := 0) rfl))), (fun _ h => absurd h List.not_mem_nil)⟩)⟩)⟩)⟩) (kGV _ _ _ _) (kFam (List.mem_cons_of_mem _ (List.mem_append_left _ (List.mem_of_getElem? (i := 41) rfl)))) gw_s_unit10_2) rfl rfl rfl ⟨rfl, hd_X10_unit⟩ ⟨(Nat.le_of_ble_eq_true rfl), (Nat.le_of_ble_eq_true rfl)⟩) (kW_V kS2_blind (kS2_give hX hS hFc) (va_recv hKc hPc (ci := 10) (q0 := 0) rfl rfl) hPc hKc hDc) rfl rfl hl.1 rfl (lv_room (Nat.le_of_ble_eq_true rfl)) dX10_part_46 ⟨(Nat.le_of_ble_eq_true rfl), (Nat.le_of_ble_eq_true rfl)⟩) hS (fun q _ h => hFc q h) hFc (fun r_16 u t H1 locs ht hvm hw hB hz1 hk1 hS => ?_)
          obtain ⟨a1_17, xf_18, xd_19⟩ := u
          obtain ⟨hP1, hK1, hD1⟩ := hB
          rw [ht] at hP1
          try dsimp only at hw
          obtain ⟨hP, hD⟩ : kPD dC dI A [(jM, kMo vs (.ref lt) (.ref tx) (.int (nI (be))) (.int (nI (en))) (.int (nI (a1_17))) (.int xf_18) (.int xd_19) (((v14 : Value) : Value) : Value) (((v15 : Value) : Value) : Value) (.ref q6) (.ref q7) (((v18 : Value) : Value) : Value)), (tx, .inl (cT, nT, .inl gT)), (lt, .inl (cE, 128, .inl gE))] H1 := kJoinI hP hD [0, 1, 2] rfl hk1 hFc hP1 hD1 rfl [some 0, some 1, some 2] rfl rfl
          generalize H1 = H at hP hS ⊢
          have hw_20 := hw
          have hw_20_a := hw_20.2.1
          have hw_20_b := hw_20.1
          refine lv_istore hx hb dX10_part_49 hl (by decide) (kTo [(4, .int r_16), (3, .int xb), (0, .ref jM), (1, .int 1), (2, .int p1)]) (fun ls hl => ?_)
          refine lv_iload_n hx hb dX10_part_51 rfl (lv_at hl 1 rfl) ?_
          refine lv_if_eq (tgt := 64) hx hb dX10_part_52 (by decide) (fun c_21 => ?_) (fun c_21 => ?_)
          · refine lv_iconst (v := 0) hx hb dX10_part_64 (by decide) ?_
            refine lv_istore_n hx hb dX10_part_65 rfl hl (by decide) (kTo [(3, .int 0), (4, .int r_16), (0, .ref jM), (1, .int 1), (2, .int p1)]) (fun ls hl => ?_)
            refine lv_goto (tgt := 18) hx hb dX10_part_66 (by decide) ?_
            exact ih_k_7 a1_17 xf_18 xd_19 0 (by omega) hw_20.2.2 (Or.inl rfl) _ _ hP hD hS ls (lv_sub hl [0, 2, 3, 4] rfl) (by omega)
          · refine lv_iload hx hb dX10_part_55 (lv_at hl 0 rfl) ?_
            refine lv_if_eq (tgt := 64) hx hb dX10_part_57 (by decide) (fun c_22 => ?_) (fun c_22 => ?_)
            · refine lv_iconst (v := 0) hx hb dX10_part_64 (by decide) ?_
              refine lv_istore_n hx hb dX10_part_65 rfl hl (by decide) (kTo [(3, .int 0), (4, .int r_16), (0, .ref jM), (1, .int 1), (2, .int p1)]) (fun ls hl => ?_)
              refine lv_goto (tgt := 18) hx hb dX10_part_66 (by decide) ?_
              exact ih_k_7 a1_17 xf_18 xd_19 0 (by omega) hw_20.2.2 (Or.inl rfl) _ _ hP hD hS ls (lv_sub hl [0, 2, 3, 4] rfl) (by omega)
            · refine lv_iconst (v := 1) hx hb dX10_part_60 (by decide) ?_
              refine lv_goto (tgt := 65) hx hb dX10_part_61 (by decide) ?_
              refine lv_istore_n hx hb dX10_part_65 rfl hl (by decide) (kTo [(3, .int 1), (4, .int r_16), (0, .ref jM), (1, .int 1), (2, .int p1)]) (fun ls hl => ?_)
              refine lv_goto (tgt := 18) hx hb dX10_part_66 (by decide) ?_
              exact ih_k_7 a1_17 xf_18 xd_19 1 (by omega) hw_20.2.2 (Or.inr rfl) _ _ hP hD hS ls (lv_sub hl [0, 2, 3, 4] rfl) (by omega)
  exact lp_k_7 (en - a1_3 + 1) a1_3 xf_4 xd_5 r_2 (by omega) hw_6.2.2 hw_6.1 _ _ hP hD hS ls (lv_sub hl [0, 1, 2, 3] rfl) (by omega)

def w_s_cond10_2_0 : List Cond := .code yX10_condition cX10_condition 5 (some .boolean) :: wf_md
theorem gw_s_cond10_2_0 : (w_s_cond10_2_0).all goodWord = true := kFamG rfl gf_md
set_option maxHeartbeats 4000000 in
set_option maxRecDepth 100000 in
theorem s_cond10_2_0 (l : Launch) (dC : Nat → ClassId) (dI : Nat → Nat → Nat) (jM : Nat) (vs : Nat → Value) (v14 : Value) (v15 : Value) (v18 : Value) (lt : Nat) (q6 : Nat) (q7 : Nat) (tx : Nat) (cT : ClassId) (nT : Nat) (gT : Nat → Int32) (be : Nat) (en : Nat) (a : Nat) (hbe : be + en ≤ nT) (hnT : nT ≤ 1680) (ha : a ≤ en) (cE : ClassId) (gE : Nat → Int32) (b6 : Nat) (n6 : Nat) (g6 : Nat → Int32) (hn6 : n6 ≤ 8) (hg6 : ∀ k : Nat, ∃ v : Nat, v < 128 ∧ g6 k = nI v) (b7 : Nat) (n7 : Nat) (g7 : Nat → Int32) (hn7 : n7 ≤ 8) (hg7 : ∀ k : Nat, ∃ v : Nat, v < 128 ∧ g7 k = nI v) (p1 : Int32) (sz : Nat) : Met l yX10_condition w_s_cond10_2_0 ({ frames := 41, cells := 0, slots := 0, locals := 2460 }) (kW dC dI [.ref jM, .int 0, .int p1] [(jM, kMo vs (.ref lt) (.ref tx) (.int (nI (be))) (.int (nI (en))) (.int (nI (a))) (.int (-1)) (.int 2) v14 v15 (.ref q6) (.ref q7) v18), (tx, .inl (cT, nT, .inl gT)), (lt, .inl (cE, 128, .inl gE))] [(cT, .byte), (cE, .int)] (kS2 q6 b6 n6 g6 q7 b7 n7 g7 (va_A [(jM, kMo vs (.ref lt) (.ref tx) (.int (nI (be))) (.int (nI (en))) (.int (nI (a))) (.int (-1)) (.int 2) v14 v15 (.ref q6) (.ref q7) v18), (tx, .inl (cT, nT, .inl gT)), (lt, .inl (cE, 128, .inl gE))] sz)) sz) (va_Qi (fun (r : Int32) (u : Nat × Int32 × Int32) => match u with | (a1, xf, xd) => ((r = 0 ∨ r = 1) ∧ (a ≤ a1 ∧ a1 ≤ en) ∧ (xf = -1 → xd = 2))) (fun (u : Nat × Int32 × Int32) => match u with | (a1, xf, xd) => fun t : State => kB dC dI [(jM, kMo vs (.ref lt) (.ref tx) (.int (nI (be))) (.int (nI (en))) (.int (nI (a1))) (.int xf) (.int xd) v14 v15 (.ref q6) (.ref q7) v18), (tx, .inl (cT, nT, .inl gT)), (lt, .inl (cE, 128, .inl gE))] [(cT, .byte), (cE, .int)] (va_A [(jM, kMo vs (.ref lt) (.ref tx) (.int (nI (be))) (.int (nI (en))) (.int (nI (a))) (.int (-1)) (.int 2) v14 v15 (.ref q6) (.ref q7) v18), (tx, .inl (cT, nT, .inl gT)), (lt, .inl (cE, 128, .inl gE))] sz) t) (va_A [(jM, kMo vs (.ref lt) (.ref tx) (.int (nI (be))) (.int (nI (en))) (.int (nI (a))) (.int (-1)) (.int 2) v14 v15 (.ref q6) (.ref q7) v18), (tx, .inl (cT, nT, .inl gT)), (lt, .inl (cE, 128, .inl gE))] sz)) 0 0 (va_A [(jM, kMo vs (.ref lt) (.ref tx) (.int (nI (be))) (.int (nI (en))) (.int (nI (a))) (.int (-1)) (.int 2) v14 v15 (.ref q6) (.ref q7) v18), (tx, .inl (cT, nT, .inl gT)), (lt, .inl (cE, 128, .inl gE))] sz) := by
  refine Met.ofW (cc := cX10_condition) (maxL := 5) (ret := (some .boolean)) (by decide) rfl ?_
  intro p e s m args below meth c s₁ B hml hv
  obtain ⟨rfl, hsz, hP, hK, hD0, hX⟩ := hv
  have hx := B.exec
  have hb := B.bytes
  have hr := B.returns
  have hts := atoms_spec (ws := w_s_cond10_2_0) B.pre
  have hown : s.vm.findClass RX10 = some m.cls := findClass_of_methodNamed B.named
  have hlocks := B.notSynchronized
  subst hsz
  have hD := hD0.self (sz := s.heap.size)
  generalize hAe : va_A [(jM, kMo vs (.ref lt) (.ref tx) (.int (nI (be))) (.int (nI (en))) (.int (nI (a))) (.int (-1)) (.int 2) v14 v15 (.ref q6) (.ref q7) v18), (tx, .inl (cT, nT, .inl gT)), (lt, .inl (cE, 128, .inl gE))] s.heap.size = A at hD hX ⊢
  have hA : ∀ q : Nat, s.heap.size ≤ q → A q := fun q h => by rw [← hAe]; exact Or.inr h
  have hS : va_S A s.heap s.heap [] := va_S.rf
  have hP : va_P (dC, dI) vwCl [(jM, kMo vs (.ref lt) (.ref tx) (.int (nI (be))) (.int (nI (en))) (.int (nI (a))) (.int (-1)) (.int 2) v14 v15 (.ref q6) (.ref q7) v18), (tx, .inl (cT, nT, .inl gT)), (lt, .inl (cE, 128, .inl gE))] s.heap := hP
  have hl := lv_entry ([.ref jM, .int 0, .int p1]) (n := 5) (Nat.le_of_ble_eq_true rfl)
  rw [lg_entry_eq]
  generalize (lg_sl ([.ref jM, .int 0, .int p1]) ++ List.replicate (5 - (lg_sl ([.ref jM, .int 0, .int p1])).length) Slot.unset).toArray = ls at hl ⊢
  have hl : lv_has ls 5 [(0, .ref jM), (1, .int 0), (2, .int p1)] := hl
  refine kQ (fun Q hQ => ?_)
  refine lv_aload_n hx hb dX10_condition_0 rfl (lv_at hl 0 rfl) ?_
  refine lv_iload_n hx hb dX10_condition_1 rfl (lv_at hl 1 rfl) ?_
  refine lv_iload_n hx hb dX10_condition_2 rfl (lv_at hl 2 rfl) ?_
  obtain ⟨hPc, hDc, hFc⟩ := kCut (wc := [(jM, kMo vs (.ref lt) (.ref tx) (.int (nI (be))) (.int (nI (en))) (.int (nI (a))) (.int (-1)) (.int 2) v14 v15 (.ref q6) (.ref q7) v18), (tx, .inl (cT, nT, .inl gT)), (lt, .inl (cE, 128, .inl gE))]) hP hD hS hA [0, 1, 2] rfl (by decide) rfl
  have hKc := hK.sb (tys2 := [(cT, .byte), (cE, .int)]) [0, 1] rfl
  refine va_calli (va_runV (As := [.int 0, .int p1]) (rest := []) ⟨hx, hb, hml, hown, hts⟩ (s_part10_2_0 l dC dI jM vs (v14 : Value) (v15 : Value) (v18 : Value) lt q6 q7 tx cT nT gT be en a (by omega) (by omega) (by omega) cE gE b6 n6 g6 hn6 hg6 b7 n7 g7 hn7 hg7 p1 s.heap.size) (cwV 2 hts (kG (List.forall_mem_cons.mpr ⟨(List.mem_cons_of_mem _ (List.mem_append_left _ (List.mem_of_getElem? (i := 48) rfl))), (List.forall_mem_cons.mpr ⟨(List.mem_cons_of_mem _ (List.mem_append_left _ (List.mem_of_getElem? (i := 47) rfl))), (List.forall_mem_cons.mpr ⟨(List.mem_cons_of_mem _ (List.mem_append_left _ (List.mem_of_getElem? (i := 46) rfl))), (List.forall_mem_cons.mpr ⟨(List.mem_cons_of_mem _ (List.mem_append_left _ (List.mem_of_getElem? (i := 0) rfl))), (fun _ h => absurd h List.not_mem_nil)⟩)⟩)⟩)⟩) (kGV _ _ _ _) (kFam (List.mem_cons_of_mem _ (List.mem_append_left _ (List.mem_of_getElem? (i := 45) rfl)))) gw_s_part10_2_0) rfl rfl rfl ⟨rfl, hd_X10_part⟩ ⟨(Nat.le_of_ble_eq_true rfl), (Nat.le_of_ble_eq_true rfl)⟩) (kW_V kS2_blind (kS2_give hX hS hFc) (va_recv hKc hPc (ci := 10) (q0 := 0) rfl rfl) hPc hKc hDc) rfl rfl hl.1 rfl (lv_room (Nat.le_of_ble_eq_true rfl)) dX10_condition_3 ⟨(Nat.le_of_ble_eq_true rfl), (Nat.le_of_ble_eq_true rfl)⟩) hS (fun q _ h => hFc q h) hFc (fun r_1 u t H1 locs ht hvm hw hB hz1 hk1 hS => ?_)
  obtain ⟨a1_2, xf_3, xd_4⟩ := u
  obtain ⟨hP1, hK1, hD1⟩ := hB
  rw [ht] at hP1
  try dsimp only at hw
  obtain ⟨hP, hD⟩ : kPD dC dI A [(jM, kMo vs (.ref lt) (.ref tx) (.int (nI (be))) (.int (nI (en))) (.int (nI (a1_2))) (.int xf_3) (.int xd_4) (v14 : Value) (v15 : Value) (.ref q6) (.ref q7) (v18 : Value)), (tx, .inl (cT, nT, .inl gT)), (lt, .inl (cE, 128, .inl gE))] H1 := kJoinI hP hD [0, 1, 2] rfl hk1 hFc hP1 hD1 rfl [some 0, some 1, some 2] rfl rfl
  generalize H1 = H at hP hS ⊢
  have hw_5 := hw
  have hw_5_a := hw_5.2.1
  have hw_5_b := hw_5.1
  refine lv_istore_n hx hb dX10_condition_6 rfl hl (by decide) (kTo [(3, .int r_1), (0, .ref jM), (1, .int 0), (2, .int p1)]) (fun ls hl => ?_)
  have lp_k_6 : ∀ (n9 : Nat) (i : Nat) (lf : Int32) (ld : Int32) (xb : Int32) (ivk_6_0 : (a ≤ i ∧ i ≤ en)) (ivk_6_1 : (lf = -1 → ld = 2)) (ivk_6_2 : (xb = 0 ∨ xb = 1)) (H : Heap) (locs : List Loc) (_ : va_P (dC, dI) vwCl [(jM, kMo vs (.ref lt) (.ref tx) (.int (nI (be))) (.int (nI (en))) (.int (nI (i))) (.int lf) (.int ld) (v14 : Value) (v15 : Value) (.ref q6) (.ref q7) (v18 : Value)), (tx, .inl (cT, nT, .inl gT)), (lt, .inl (cE, 128, .inl gE))] H) (_ : va_D A [(jM, kMo vs (.ref lt) (.ref tx) (.int (nI (be))) (.int (nI (en))) (.int (nI (i))) (.int lf) (.int ld) (v14 : Value) (v15 : Value) (.ref q6) (.ref q7) (v18 : Value)), (tx, .inl (cT, nT, .inl gT)), (lt, .inl (cE, 128, .inl gE))]) (_ : va_S A s.heap H locs) (ls : Array Slot) (_ : lv_has ls 5 [(3, .int xb), (0, .ref jM), (1, .int 0), (2, .int p1)]) (_ : en - i < n9), W p l e (headSpec w_s_cond10_2_0 ({ frames := 41, cells := 0, slots := 0, locals := 2460 })).room s m (#[.ref jM, .int 0, .int p1] : Array Value) below meth c H locs 0 0 Q (F0 m 7 ls []) := by
    intro n9
    induction n9 with
    | zero => intro i lf ld xb ivk_6_0 ivk_6_1 ivk_6_2 H locs hP hD hS ls hl hm9; exact absurd hm9 (Nat.not_lt_zero _)
    | succ n9 ih_k_6 =>
      intro i lf ld xb ivk_6_0 ivk_6_1 ivk_6_2 H locs hP hD hS ls hl hm9
      refine lv_aload_n hx hb dX10_condition_7 rfl (lv_at hl 1 rfl) ?_
      refine va_get (D := (dC, dI)) (ci := 10) (v := .int lf) (C := RX10) (T := TX10) (N := 52) hx hb hts (fun _ h => List.mem_cons_of_mem _ (List.mem_append_right _ (List.mem_append_right _ (List.mem_append_left _ h)))) hown hK hP 0 rfl rfl 12 (by decide) (hts (.fieldLink RX10 150 "NotEndedModel" "fault" "I") (List.mem_cons_of_mem _ (List.mem_append_left _ (List.mem_of_getElem? (i := 10) rfl)))) (fun _ h9 => h9) rfl dX10_condition_8 ?_
      refine lv_iconst (v := (-1)) hx hb dX10_condition_11 (by decide) ?_
      refine lv_icmp_ne (tgt := 60) hx hb dX10_condition_12 (by decide) (fun c_7 => ?_) (fun c_7 => ?_)
      · refine lv_iload_n hx hb dX10_condition_60 rfl (lv_at hl 0 rfl) ?_
        have hP9 := hP
        have hD9 := hD
        have hK9 := hK
        rw [hQ]
        exact W.zret (v := xb) hx hb hr (kB01 (by assumption)) (fun t ht hW => ⟨⟨xb, (i, lf, ld), rfl, ⟨(by assumption), by omega, ivk_6_1⟩,  by rw [ht]; exact hP9, va_K.moved hW.alike hK9, hD9⟩, hS.F ht⟩) hS.2.2 dX10_condition_61
      · have e_8 := ivk_6_1 c_7
        subst e_8
        subst c_7
        refine lv_aload_n hx hb dX10_condition_15 rfl (lv_at hl 1 rfl) ?_
        obtain ⟨hPc, hDc, hFc⟩ := kCut (wc := [(jM, kMo vs (.ref lt) (.ref tx) (.int (nI (be))) (.int (nI (en))) (.int (nI (i))) (.int (-1)) (.int 2) (v14 : Value) (v15 : Value) (.ref q6) (.ref q7) (v18 : Value)), (tx, .inl (cT, nT, .inl gT))]) hP hD hS hA [0, 1] rfl (by decide) rfl
        have hKc := hK.sb (tys2 := [(cT, .byte)]) [0] rfl
        refine va_calli (va_runV (As := []) (rest := []) ⟨hx, hb, hml, hown, hts⟩ (s_look10 l dC dI jM vs (.int (-1) : Value) (.int 2 : Value) ((v14 : Value) : Value) ((v15 : Value) : Value) ((v18 : Value) : Value) lt q6 q7 tx cT nT gT be en i (by omega) (by omega) (by omega) H.size) (cwV 0 hts (kG (List.forall_mem_cons.mpr ⟨(List.mem_cons_of_mem _ (List.mem_append_left _ (List.mem_of_getElem? (i := 3) rfl))), (List.forall_mem_cons.mpr ⟨(List.mem_cons_of_mem _ (List.mem_append_left _ (List.mem_of_getElem? (i := 2) rfl))), (List.forall_mem_cons.mpr ⟨(List.mem_cons_of_mem _ (List.mem_append_left _ (List.mem_of_getElem? (i := 1) rfl))), (List.forall_mem_cons.mpr ⟨(List.mem_cons_of_mem _ (List.mem_append_left _ (List.mem_of_getElem? (i := 0) rfl))), (fun _ h => absurd h List.not_mem_nil)⟩)⟩)⟩)⟩) (kGV _ _ _ _) (fun _ h => List.mem_cons_of_mem _ (List.mem_append_right _ (List.mem_append_left _ h))) gw_s_look10) rfl rfl rfl ⟨rfl, hd_X10_look⟩ ⟨(Nat.le_of_ble_eq_true rfl), (Nat.le_of_ble_eq_true rfl)⟩) (kW_V kT_blind kT_give (va_recv hKc hPc (ci := 10) (q0 := 0) rfl rfl) hPc hKc hDc) rfl rfl hl.1 rfl (lv_room (Nat.le_of_ble_eq_true rfl)) dX10_condition_16 ⟨(Nat.le_of_ble_eq_true rfl), (Nat.le_of_ble_eq_true rfl)⟩) hS (fun q _ h => hFc q h) hFc (fun r_9 u t H1 locs ht hvm hw hB hz1 hk1 hS => ?_)
        obtain ⟨a1_10, rfl⟩ : ∃ z, z = u := ⟨_, rfl⟩
        obtain ⟨hP1, hK1, hD1⟩ := hB
        rw [ht] at hP1
        try dsimp only at hw
        obtain ⟨hP, hD⟩ : kPD dC dI A [(jM, kMo vs (.ref lt) (.ref tx) (.int (nI (be))) (.int (nI (en))) (.int (nI (a1_10))) (.int (-1)) (.int 2) ((v14 : Value) : Value) ((v15 : Value) : Value) (.ref q6) (.ref q7) ((v18 : Value) : Value)), (tx, .inl (cT, nT, .inl gT)), (lt, .inl (cE, 128, .inl gE))] H1 := kJoinI hP hD [0, 1] rfl hk1 hFc hP1 hD1 rfl [some 0, some 1, none] rfl rfl
        generalize H1 = H at hP hS ⊢
        have hw_11 := hw
        have hw_11_3 := hw_11.2.1
        refine lv_bipush (v := 124) hx hb dX10_condition_19 (by decide) ?_
        refine lv_icmp_ne (tgt := 60) hx hb dX10_condition_21 (by decide) (fun c_12 => ?_) (fun c_12 => ?_)
        · refine lv_iload_n hx hb dX10_condition_60 rfl (lv_at hl 0 rfl) ?_
          have hP9 := hP
          have hD9 := hD
          have hK9 := hK
          rw [hQ]
          exact W.zret (v := xb) hx hb hr (kB01 (by assumption)) (fun t ht hW => ⟨⟨xb, (a1_10, (-1), 2), rfl, ⟨(by assumption), by omega, (fun _ => rfl)⟩,  by rw [ht]; exact hP9, va_K.moved hW.alike hK9, hD9⟩, hS.F ht⟩) hS.2.2 dX10_condition_61
        · have hns_13 := hw_11.1.resolve_left (fun z9 => absurd (c_12.symm.trans z9) (by decide))
          have hns_13_1 := hns_13.1
          refine lv_aload_n hx hb dX10_condition_24 rfl (lv_at hl 1 rfl) ?_
          refine lv_dup hx hb dX10_condition_25 rfl ?_
          refine va_get (D := (dC, dI)) (ci := 10) (v := .int (nI (a1_10))) (C := RX10) (T := TX10) (N := 52) hx hb hts (fun _ h => List.mem_cons_of_mem _ (List.mem_append_right _ (List.mem_append_right _ (List.mem_append_left _ h)))) hown hK hP 0 rfl rfl 11 (by decide) (hts (.fieldLink RX10 141 "NotEndedModel" "at" "I") (List.mem_cons_of_mem _ (List.mem_append_left _ (List.mem_of_getElem? (i := 13) rfl)))) (fun _ h9 => h9) rfl dX10_condition_26 ?_
          refine lv_iconst (v := 1) hx hb dX10_condition_29 (by decide) ?_
          refine lv_iadd hx hb dX10_condition_30 ?_
          refine lv_topi (fun y_14 ey_14 => ?_)
          obtain rfl : y_14 = nI (a1_10 + 1) := ey_14.trans (nI_add (a1_10) (1))
          refine va_put (D := (dC, dI)) (ci := 10) (v := .int (nI (a1_10 + 1))) (ty := tyX10 11) (C := RX10) (T := TX10) (N := 52) hx hb hts (fun _ h => List.mem_cons_of_mem _ (List.mem_append_right _ (List.mem_append_right _ (List.mem_append_left _ h)))) tyX10 tyX10_ok nmX10 hown hK hP hD hS 0 rfl rfl 11 (by decide) (hts (.fieldLink RX10 141 "NotEndedModel" "at" "I") (List.mem_cons_of_mem _ (List.mem_append_left _ (List.mem_of_getElem? (i := 13) rfl)))) (fun _ h9 => h9) rfl (tyX10_ok 11 (by decide)) rfl rfl (Nat.le_of_ble_eq_true rfl) dX10_condition_31 (fun H locs hP hD hS => ?_)
          obtain ⟨hP, hD⟩ : kPD dC dI A [(jM, kMo vs (.ref lt) (.ref tx) (.int (nI (be))) (.int (nI (en))) (.int (nI (a1_10 + 1))) (.int (-1)) (.int 2) ((v14 : Value) : Value) ((v15 : Value) : Value) (.ref q6) (.ref q7) ((v18 : Value) : Value)), (tx, .inl (cT, nT, .inl gT)), (lt, .inl (cE, 128, .inl gE))] H := ⟨hP, hD⟩
          refine lv_aload_n hx hb dX10_condition_34 rfl (lv_at hl 1 rfl) ?_
          refine lv_iconst (v := 0) hx hb dX10_condition_35 (by decide) ?_
          refine lv_iconst (v := 0) hx hb dX10_condition_36 (by decide) ?_
          obtain ⟨hPc, hDc, hFc⟩ := kCut (wc := [(jM, kMo vs (.ref lt) (.ref tx) (.int (nI (be))) (.int (nI (en))) (.int (nI (a1_10 + 1))) (.int (-1)) (.int 2) ((v14 : Value) : Value) ((v15 : Value) : Value) (.ref q6) (.ref q7) ((v18 : Value) : Value)), (tx, .inl (cT, nT, .inl gT)), (lt, .inl (cE, 128, .inl gE))]) hP hD hS hA [0, 1, 2] rfl (by decide) rfl
          have hKc := hK.sb (tys2 := [(cT, .byte), (cE, .int)]) [0, 1] rfl
          refine va_calli (va_runV (As := [.int 0, .int 0]) (rest := []) ⟨hx, hb, hml, hown, hts⟩ (s_part10_2_0 l dC dI jM vs (((v14 : Value) : Value) : Value) (((v15 : Value) : Value) : Value) (((v18 : Value) : Value) : Value) lt q6 q7 tx cT nT gT be en (a1_10 + 1) (by omega) (by omega) (by omega) cE gE b6 n6 g6 hn6 hg6 b7 n7 g7 hn7 hg7 0 H.size) (cwV 2 hts (kG (List.forall_mem_cons.mpr ⟨(List.mem_cons_of_mem _ (List.mem_append_left _ (List.mem_of_getElem? (i := 48) rfl))), (List.forall_mem_cons.mpr ⟨(List.mem_cons_of_mem _ (List.mem_append_left _ (List.mem_of_getElem? (i := 47) rfl))), (List.forall_mem_cons.mpr ⟨(List.mem_cons_of_mem _ (List.mem_append_left _ (List.mem_of_getElem? (i := 46) rfl))), (List.forall_mem_cons.mpr ⟨(List.mem_cons_of_mem _ (List.mem_append_left _ (List.mem_of_getElem? (i := 0) rfl))), (fun _ h => absurd h List.not_mem_nil)⟩)⟩)⟩)⟩) (kGV _ _ _ _) (kFam (List.mem_cons_of_mem _ (List.mem_append_left _ (List.mem_of_getElem? (i := 45) rfl)))) gw_s_part10_2_0) rfl rfl rfl ⟨rfl, hd_X10_part⟩ ⟨(Nat.le_of_ble_eq_true rfl), (Nat.le_of_ble_eq_true rfl)⟩) (kW_V kS2_blind (kS2_give hX hS hFc) (va_recv hKc hPc (ci := 10) (q0 := 0) rfl rfl) hPc hKc hDc) rfl rfl hl.1 rfl (lv_room (Nat.le_of_ble_eq_true rfl)) dX10_condition_37 ⟨(Nat.le_of_ble_eq_true rfl), (Nat.le_of_ble_eq_true rfl)⟩) hS (fun q _ h => hFc q h) hFc (fun r_15 u t H1 locs ht hvm hw hB hz1 hk1 hS => ?_)
          obtain ⟨a1_16, xf_17, xd_18⟩ := u
          obtain ⟨hP1, hK1, hD1⟩ := hB
          rw [ht] at hP1
          try dsimp only at hw
          obtain ⟨hP, hD⟩ : kPD dC dI A [(jM, kMo vs (.ref lt) (.ref tx) (.int (nI (be))) (.int (nI (en))) (.int (nI (a1_16))) (.int xf_17) (.int xd_18) (((v14 : Value) : Value) : Value) (((v15 : Value) : Value) : Value) (.ref q6) (.ref q7) (((v18 : Value) : Value) : Value)), (tx, .inl (cT, nT, .inl gT)), (lt, .inl (cE, 128, .inl gE))] H1 := kJoinI hP hD [0, 1, 2] rfl hk1 hFc hP1 hD1 rfl [some 0, some 1, some 2] rfl rfl
          generalize H1 = H at hP hS ⊢
          have hw_19 := hw
          have hw_19_a := hw_19.2.1
          have hw_19_b := hw_19.1
          refine lv_istore hx hb dX10_condition_40 hl (by decide) (kTo [(4, .int r_15), (3, .int xb), (0, .ref jM), (1, .int 0), (2, .int p1)]) (fun ls hl => ?_)
          refine lv_iload_n hx hb dX10_condition_42 rfl (lv_at hl 1 rfl) ?_
          refine lv_if_ne (tgt := 51) hx hb dX10_condition_43 (by decide) (fun c_20 => ?_) (fun c_20 => ?_)
          · refine lv_iconst (v := 1) hx hb dX10_condition_51 (by decide) ?_
            refine lv_goto (tgt := 56) hx hb dX10_condition_52 (by decide) ?_
            refine lv_istore_n hx hb dX10_condition_56 rfl hl (by decide) (kTo [(3, .int 1), (4, .int r_15), (0, .ref jM), (1, .int 0), (2, .int p1)]) (fun ls hl => ?_)
            refine lv_goto (tgt := 7) hx hb dX10_condition_57 (by decide) ?_
            exact ih_k_6 a1_16 xf_17 xd_18 1 (by omega) hw_19.2.2 (Or.inr rfl) _ _ hP hD hS ls (lv_sub hl [0, 2, 3, 4] rfl) (by omega)
          · refine lv_iload hx hb dX10_condition_46 (lv_at hl 0 rfl) ?_
            refine lv_if_eq (tgt := 55) hx hb dX10_condition_48 (by decide) (fun c_21 => ?_) (fun c_21 => ?_)
            · refine lv_iconst (v := 0) hx hb dX10_condition_55 (by decide) ?_
              refine lv_istore_n hx hb dX10_condition_56 rfl hl (by decide) (kTo [(3, .int 0), (4, .int r_15), (0, .ref jM), (1, .int 0), (2, .int p1)]) (fun ls hl => ?_)
              refine lv_goto (tgt := 7) hx hb dX10_condition_57 (by decide) ?_
              exact ih_k_6 a1_16 xf_17 xd_18 0 (by omega) hw_19.2.2 (Or.inl rfl) _ _ hP hD hS ls (lv_sub hl [0, 2, 3, 4] rfl) (by omega)
            · refine lv_iconst (v := 1) hx hb dX10_condition_51 (by decide) ?_
              refine lv_goto (tgt := 56) hx hb dX10_condition_52 (by decide) ?_
              refine lv_istore_n hx hb dX10_condition_56 rfl hl (by decide) (kTo [(3, .int 1), (4, .int r_15), (0, .ref jM), (1, .int 0), (2, .int p1)]) (fun ls hl => ?_)
              refine lv_goto (tgt := 7) hx hb dX10_condition_57 (by decide) ?_
              exact ih_k_6 a1_16 xf_17 xd_18 1 (by omega) hw_19.2.2 (Or.inr rfl) _ _ hP hD hS ls (lv_sub hl [0, 2, 3, 4] rfl) (by omega)
  exact lp_k_6 (en - a1_2 + 1) a1_2 xf_3 xd_4 r_1 (by omega) hw_5.2.2 hw_5.1 _ _ hP hD hS ls (lv_sub hl [0, 1, 2, 3] rfl) (by omega)

def w_s_cond10_2_1 : List Cond := .code yX10_condition cX10_condition 5 (some .boolean) :: wf_md
theorem gw_s_cond10_2_1 : (w_s_cond10_2_1).all goodWord = true := kFamG rfl gf_md
set_option maxHeartbeats 4000000 in
set_option maxRecDepth 100000 in
theorem s_cond10_2_1 (l : Launch) (dC : Nat → ClassId) (dI : Nat → Nat → Nat) (jM : Nat) (vs : Nat → Value) (v14 : Value) (v15 : Value) (v18 : Value) (lt : Nat) (q6 : Nat) (q7 : Nat) (tx : Nat) (cT : ClassId) (nT : Nat) (gT : Nat → Int32) (be : Nat) (en : Nat) (a : Nat) (hbe : be + en ≤ nT) (hnT : nT ≤ 1680) (ha : a ≤ en) (cE : ClassId) (gE : Nat → Int32) (b6 : Nat) (n6 : Nat) (g6 : Nat → Int32) (hn6 : n6 ≤ 8) (hg6 : ∀ k : Nat, ∃ v : Nat, v < 128 ∧ g6 k = nI v) (b7 : Nat) (n7 : Nat) (g7 : Nat → Int32) (hn7 : n7 ≤ 8) (hg7 : ∀ k : Nat, ∃ v : Nat, v < 128 ∧ g7 k = nI v) (p1 : Int32) (sz : Nat) : Met l yX10_condition w_s_cond10_2_1 ({ frames := 41, cells := 0, slots := 0, locals := 2460 }) (kW dC dI [.ref jM, .int 1, .int p1] [(jM, kMo vs (.ref lt) (.ref tx) (.int (nI (be))) (.int (nI (en))) (.int (nI (a))) (.int (-1)) (.int 2) v14 v15 (.ref q6) (.ref q7) v18), (tx, .inl (cT, nT, .inl gT)), (lt, .inl (cE, 128, .inl gE))] [(cT, .byte), (cE, .int)] (kS2 q6 b6 n6 g6 q7 b7 n7 g7 (va_A [(jM, kMo vs (.ref lt) (.ref tx) (.int (nI (be))) (.int (nI (en))) (.int (nI (a))) (.int (-1)) (.int 2) v14 v15 (.ref q6) (.ref q7) v18), (tx, .inl (cT, nT, .inl gT)), (lt, .inl (cE, 128, .inl gE))] sz)) sz) (va_Qi (fun (r : Int32) (u : Nat × Int32 × Int32) => match u with | (a1, xf, xd) => ((r = 0 ∨ r = 1) ∧ (a ≤ a1 ∧ a1 ≤ en) ∧ (xf = -1 → xd = 2))) (fun (u : Nat × Int32 × Int32) => match u with | (a1, xf, xd) => fun t : State => kB dC dI [(jM, kMo vs (.ref lt) (.ref tx) (.int (nI (be))) (.int (nI (en))) (.int (nI (a1))) (.int xf) (.int xd) v14 v15 (.ref q6) (.ref q7) v18), (tx, .inl (cT, nT, .inl gT)), (lt, .inl (cE, 128, .inl gE))] [(cT, .byte), (cE, .int)] (va_A [(jM, kMo vs (.ref lt) (.ref tx) (.int (nI (be))) (.int (nI (en))) (.int (nI (a))) (.int (-1)) (.int 2) v14 v15 (.ref q6) (.ref q7) v18), (tx, .inl (cT, nT, .inl gT)), (lt, .inl (cE, 128, .inl gE))] sz) t) (va_A [(jM, kMo vs (.ref lt) (.ref tx) (.int (nI (be))) (.int (nI (en))) (.int (nI (a))) (.int (-1)) (.int 2) v14 v15 (.ref q6) (.ref q7) v18), (tx, .inl (cT, nT, .inl gT)), (lt, .inl (cE, 128, .inl gE))] sz)) 0 0 (va_A [(jM, kMo vs (.ref lt) (.ref tx) (.int (nI (be))) (.int (nI (en))) (.int (nI (a))) (.int (-1)) (.int 2) v14 v15 (.ref q6) (.ref q7) v18), (tx, .inl (cT, nT, .inl gT)), (lt, .inl (cE, 128, .inl gE))] sz) := by
  refine Met.ofW (cc := cX10_condition) (maxL := 5) (ret := (some .boolean)) (by decide) rfl ?_
  intro p e s m args below meth c s₁ B hml hv
  obtain ⟨rfl, hsz, hP, hK, hD0, hX⟩ := hv
  have hx := B.exec
  have hb := B.bytes
  have hr := B.returns
  have hts := atoms_spec (ws := w_s_cond10_2_1) B.pre
  have hown : s.vm.findClass RX10 = some m.cls := findClass_of_methodNamed B.named
  have hlocks := B.notSynchronized
  subst hsz
  have hD := hD0.self (sz := s.heap.size)
  generalize hAe : va_A [(jM, kMo vs (.ref lt) (.ref tx) (.int (nI (be))) (.int (nI (en))) (.int (nI (a))) (.int (-1)) (.int 2) v14 v15 (.ref q6) (.ref q7) v18), (tx, .inl (cT, nT, .inl gT)), (lt, .inl (cE, 128, .inl gE))] s.heap.size = A at hD hX ⊢
  have hA : ∀ q : Nat, s.heap.size ≤ q → A q := fun q h => by rw [← hAe]; exact Or.inr h
  have hS : va_S A s.heap s.heap [] := va_S.rf
  have hP : va_P (dC, dI) vwCl [(jM, kMo vs (.ref lt) (.ref tx) (.int (nI (be))) (.int (nI (en))) (.int (nI (a))) (.int (-1)) (.int 2) v14 v15 (.ref q6) (.ref q7) v18), (tx, .inl (cT, nT, .inl gT)), (lt, .inl (cE, 128, .inl gE))] s.heap := hP
  have hl := lv_entry ([.ref jM, .int 1, .int p1]) (n := 5) (Nat.le_of_ble_eq_true rfl)
  rw [lg_entry_eq]
  generalize (lg_sl ([.ref jM, .int 1, .int p1]) ++ List.replicate (5 - (lg_sl ([.ref jM, .int 1, .int p1])).length) Slot.unset).toArray = ls at hl ⊢
  have hl : lv_has ls 5 [(0, .ref jM), (1, .int 1), (2, .int p1)] := hl
  refine kQ (fun Q hQ => ?_)
  refine lv_aload_n hx hb dX10_condition_0 rfl (lv_at hl 0 rfl) ?_
  refine lv_iload_n hx hb dX10_condition_1 rfl (lv_at hl 1 rfl) ?_
  refine lv_iload_n hx hb dX10_condition_2 rfl (lv_at hl 2 rfl) ?_
  obtain ⟨hPc, hDc, hFc⟩ := kCut (wc := [(jM, kMo vs (.ref lt) (.ref tx) (.int (nI (be))) (.int (nI (en))) (.int (nI (a))) (.int (-1)) (.int 2) v14 v15 (.ref q6) (.ref q7) v18), (tx, .inl (cT, nT, .inl gT)), (lt, .inl (cE, 128, .inl gE))]) hP hD hS hA [0, 1, 2] rfl (by decide) rfl
  have hKc := hK.sb (tys2 := [(cT, .byte), (cE, .int)]) [0, 1] rfl
  refine va_calli (va_runV (As := [.int 1, .int p1]) (rest := []) ⟨hx, hb, hml, hown, hts⟩ (s_part10_2_1 l dC dI jM vs (v14 : Value) (v15 : Value) (v18 : Value) lt q6 q7 tx cT nT gT be en a (by omega) (by omega) (by omega) cE gE b6 n6 g6 hn6 hg6 b7 n7 g7 hn7 hg7 p1 s.heap.size) (cwV 2 hts (kG (List.forall_mem_cons.mpr ⟨(List.mem_cons_of_mem _ (List.mem_append_left _ (List.mem_of_getElem? (i := 48) rfl))), (List.forall_mem_cons.mpr ⟨(List.mem_cons_of_mem _ (List.mem_append_left _ (List.mem_of_getElem? (i := 47) rfl))), (List.forall_mem_cons.mpr ⟨(List.mem_cons_of_mem _ (List.mem_append_left _ (List.mem_of_getElem? (i := 46) rfl))), (List.forall_mem_cons.mpr ⟨(List.mem_cons_of_mem _ (List.mem_append_left _ (List.mem_of_getElem? (i := 0) rfl))), (fun _ h => absurd h List.not_mem_nil)⟩)⟩)⟩)⟩) (kGV _ _ _ _) (kFam (List.mem_cons_of_mem _ (List.mem_append_left _ (List.mem_of_getElem? (i := 45) rfl)))) gw_s_part10_2_1) rfl rfl rfl ⟨rfl, hd_X10_part⟩ ⟨(Nat.le_of_ble_eq_true rfl), (Nat.le_of_ble_eq_true rfl)⟩) (kW_V kS2_blind (kS2_give hX hS hFc) (va_recv hKc hPc (ci := 10) (q0 := 0) rfl rfl) hPc hKc hDc) rfl rfl hl.1 rfl (lv_room (Nat.le_of_ble_eq_true rfl)) dX10_condition_3 ⟨(Nat.le_of_ble_eq_true rfl), (Nat.le_of_ble_eq_true rfl)⟩) hS (fun q _ h => hFc q h) hFc (fun r_1 u t H1 locs ht hvm hw hB hz1 hk1 hS => ?_)
  obtain ⟨a1_2, xf_3, xd_4⟩ := u
  obtain ⟨hP1, hK1, hD1⟩ := hB
  rw [ht] at hP1
  try dsimp only at hw
  obtain ⟨hP, hD⟩ : kPD dC dI A [(jM, kMo vs (.ref lt) (.ref tx) (.int (nI (be))) (.int (nI (en))) (.int (nI (a1_2))) (.int xf_3) (.int xd_4) (v14 : Value) (v15 : Value) (.ref q6) (.ref q7) (v18 : Value)), (tx, .inl (cT, nT, .inl gT)), (lt, .inl (cE, 128, .inl gE))] H1 := kJoinI hP hD [0, 1, 2] rfl hk1 hFc hP1 hD1 rfl [some 0, some 1, some 2] rfl rfl
  generalize H1 = H at hP hS ⊢
  have hw_5 := hw
  have hw_5_a := hw_5.2.1
  have hw_5_b := hw_5.1
  refine lv_istore_n hx hb dX10_condition_6 rfl hl (by decide) (kTo [(3, .int r_1), (0, .ref jM), (1, .int 1), (2, .int p1)]) (fun ls hl => ?_)
  have lp_k_6 : ∀ (n9 : Nat) (i : Nat) (lf : Int32) (ld : Int32) (xb : Int32) (ivk_6_0 : (a ≤ i ∧ i ≤ en)) (ivk_6_1 : (lf = -1 → ld = 2)) (ivk_6_2 : (xb = 0 ∨ xb = 1)) (H : Heap) (locs : List Loc) (_ : va_P (dC, dI) vwCl [(jM, kMo vs (.ref lt) (.ref tx) (.int (nI (be))) (.int (nI (en))) (.int (nI (i))) (.int lf) (.int ld) (v14 : Value) (v15 : Value) (.ref q6) (.ref q7) (v18 : Value)), (tx, .inl (cT, nT, .inl gT)), (lt, .inl (cE, 128, .inl gE))] H) (_ : va_D A [(jM, kMo vs (.ref lt) (.ref tx) (.int (nI (be))) (.int (nI (en))) (.int (nI (i))) (.int lf) (.int ld) (v14 : Value) (v15 : Value) (.ref q6) (.ref q7) (v18 : Value)), (tx, .inl (cT, nT, .inl gT)), (lt, .inl (cE, 128, .inl gE))]) (_ : va_S A s.heap H locs) (ls : Array Slot) (_ : lv_has ls 5 [(3, .int xb), (0, .ref jM), (1, .int 1), (2, .int p1)]) (_ : en - i < n9), W p l e (headSpec w_s_cond10_2_1 ({ frames := 41, cells := 0, slots := 0, locals := 2460 })).room s m (#[.ref jM, .int 1, .int p1] : Array Value) below meth c H locs 0 0 Q (F0 m 7 ls []) := by
    intro n9
    induction n9 with
    | zero => intro i lf ld xb ivk_6_0 ivk_6_1 ivk_6_2 H locs hP hD hS ls hl hm9; exact absurd hm9 (Nat.not_lt_zero _)
    | succ n9 ih_k_6 =>
      intro i lf ld xb ivk_6_0 ivk_6_1 ivk_6_2 H locs hP hD hS ls hl hm9
      refine lv_aload_n hx hb dX10_condition_7 rfl (lv_at hl 1 rfl) ?_
      refine va_get (D := (dC, dI)) (ci := 10) (v := .int lf) (C := RX10) (T := TX10) (N := 52) hx hb hts (fun _ h => List.mem_cons_of_mem _ (List.mem_append_right _ (List.mem_append_right _ (List.mem_append_left _ h)))) hown hK hP 0 rfl rfl 12 (by decide) (hts (.fieldLink RX10 150 "NotEndedModel" "fault" "I") (List.mem_cons_of_mem _ (List.mem_append_left _ (List.mem_of_getElem? (i := 10) rfl)))) (fun _ h9 => h9) rfl dX10_condition_8 ?_
      refine lv_iconst (v := (-1)) hx hb dX10_condition_11 (by decide) ?_
      refine lv_icmp_ne (tgt := 60) hx hb dX10_condition_12 (by decide) (fun c_7 => ?_) (fun c_7 => ?_)
      · refine lv_iload_n hx hb dX10_condition_60 rfl (lv_at hl 0 rfl) ?_
        have hP9 := hP
        have hD9 := hD
        have hK9 := hK
        rw [hQ]
        exact W.zret (v := xb) hx hb hr (kB01 (by assumption)) (fun t ht hW => ⟨⟨xb, (i, lf, ld), rfl, ⟨(by assumption), by omega, ivk_6_1⟩,  by rw [ht]; exact hP9, va_K.moved hW.alike hK9, hD9⟩, hS.F ht⟩) hS.2.2 dX10_condition_61
      · have e_8 := ivk_6_1 c_7
        subst e_8
        subst c_7
        refine lv_aload_n hx hb dX10_condition_15 rfl (lv_at hl 1 rfl) ?_
        obtain ⟨hPc, hDc, hFc⟩ := kCut (wc := [(jM, kMo vs (.ref lt) (.ref tx) (.int (nI (be))) (.int (nI (en))) (.int (nI (i))) (.int (-1)) (.int 2) (v14 : Value) (v15 : Value) (.ref q6) (.ref q7) (v18 : Value)), (tx, .inl (cT, nT, .inl gT))]) hP hD hS hA [0, 1] rfl (by decide) rfl
        have hKc := hK.sb (tys2 := [(cT, .byte)]) [0] rfl
        refine va_calli (va_runV (As := []) (rest := []) ⟨hx, hb, hml, hown, hts⟩ (s_look10 l dC dI jM vs (.int (-1) : Value) (.int 2 : Value) ((v14 : Value) : Value) ((v15 : Value) : Value) ((v18 : Value) : Value) lt q6 q7 tx cT nT gT be en i (by omega) (by omega) (by omega) H.size) (cwV 0 hts (kG (List.forall_mem_cons.mpr ⟨(List.mem_cons_of_mem _ (List.mem_append_left _ (List.mem_of_getElem? (i := 3) rfl))), (List.forall_mem_cons.mpr ⟨(List.mem_cons_of_mem _ (List.mem_append_left _ (List.mem_of_getElem? (i := 2) rfl))), (List.forall_mem_cons.mpr ⟨(List.mem_cons_of_mem _ (List.mem_append_left _ (List.mem_of_getElem? (i := 1) rfl))), (List.forall_mem_cons.mpr ⟨(List.mem_cons_of_mem _ (List.mem_append_left _ (List.mem_of_getElem? (i := 0) rfl))), (fun _ h => absurd h List.not_mem_nil)⟩)⟩)⟩)⟩) (kGV _ _ _ _) (fun _ h => List.mem_cons_of_mem _ (List.mem_append_right _ (List.mem_append_left _ h))) gw_s_look10) rfl rfl rfl ⟨rfl, hd_X10_look⟩ ⟨(Nat.le_of_ble_eq_true rfl), (Nat.le_of_ble_eq_true rfl)⟩) (kW_V kT_blind kT_give (va_recv hKc hPc (ci := 10) (q0 := 0) rfl rfl) hPc hKc hDc) rfl rfl hl.1 rfl (lv_room (Nat.le_of_ble_eq_true rfl)) dX10_condition_16 ⟨(Nat.le_of_ble_eq_true rfl), (Nat.le_of_ble_eq_true rfl)⟩) hS (fun q _ h => hFc q h) hFc (fun r_9 u t H1 locs ht hvm hw hB hz1 hk1 hS => ?_)
        obtain ⟨a1_10, rfl⟩ : ∃ z, z = u := ⟨_, rfl⟩
        obtain ⟨hP1, hK1, hD1⟩ := hB
        rw [ht] at hP1
        try dsimp only at hw
        obtain ⟨hP, hD⟩ : kPD dC dI A [(jM, kMo vs (.ref lt) (.ref tx) (.int (nI (be))) (.int (nI (en))) (.int (nI (a1_10))) (.int (-1)) (.int 2) ((v14 : Value) : Value) ((v15 : Value) : Value) (.ref q6) (.ref q7) ((v18 : Value) : Value)), (tx, .inl (cT, nT, .inl gT)), (lt, .inl (cE, 128, .inl gE))] H1 := kJoinI hP hD [0, 1] rfl hk1 hFc hP1 hD1 rfl [some 0, some 1, none] rfl rfl
        generalize H1 = H at hP hS ⊢
        have hw_11 := hw
        have hw_11_3 := hw_11.2.1
        refine lv_bipush (v := 124) hx hb dX10_condition_19 (by decide) ?_
        refine lv_icmp_ne (tgt := 60) hx hb dX10_condition_21 (by decide) (fun c_12 => ?_) (fun c_12 => ?_)
        · refine lv_iload_n hx hb dX10_condition_60 rfl (lv_at hl 0 rfl) ?_
          have hP9 := hP
          have hD9 := hD
          have hK9 := hK
          rw [hQ]
          exact W.zret (v := xb) hx hb hr (kB01 (by assumption)) (fun t ht hW => ⟨⟨xb, (a1_10, (-1), 2), rfl, ⟨(by assumption), by omega, (fun _ => rfl)⟩,  by rw [ht]; exact hP9, va_K.moved hW.alike hK9, hD9⟩, hS.F ht⟩) hS.2.2 dX10_condition_61
        · have hns_13 := hw_11.1.resolve_left (fun z9 => absurd (c_12.symm.trans z9) (by decide))
          have hns_13_1 := hns_13.1
          refine lv_aload_n hx hb dX10_condition_24 rfl (lv_at hl 1 rfl) ?_
          refine lv_dup hx hb dX10_condition_25 rfl ?_
          refine va_get (D := (dC, dI)) (ci := 10) (v := .int (nI (a1_10))) (C := RX10) (T := TX10) (N := 52) hx hb hts (fun _ h => List.mem_cons_of_mem _ (List.mem_append_right _ (List.mem_append_right _ (List.mem_append_left _ h)))) hown hK hP 0 rfl rfl 11 (by decide) (hts (.fieldLink RX10 141 "NotEndedModel" "at" "I") (List.mem_cons_of_mem _ (List.mem_append_left _ (List.mem_of_getElem? (i := 13) rfl)))) (fun _ h9 => h9) rfl dX10_condition_26 ?_
          refine lv_iconst (v := 1) hx hb dX10_condition_29 (by decide) ?_
          refine lv_iadd hx hb dX10_condition_30 ?_
          refine lv_topi (fun y_14 ey_14 => ?_)
          obtain rfl : y_14 = nI (a1_10 + 1) := ey_14.trans (nI_add (a1_10) (1))
          refine va_put (D := (dC, dI)) (ci := 10) (v := .int (nI (a1_10 + 1))) (ty := tyX10 11) (C := RX10) (T := TX10) (N := 52) hx hb hts (fun _ h => List.mem_cons_of_mem _ (List.mem_append_right _ (List.mem_append_right _ (List.mem_append_left _ h)))) tyX10 tyX10_ok nmX10 hown hK hP hD hS 0 rfl rfl 11 (by decide) (hts (.fieldLink RX10 141 "NotEndedModel" "at" "I") (List.mem_cons_of_mem _ (List.mem_append_left _ (List.mem_of_getElem? (i := 13) rfl)))) (fun _ h9 => h9) rfl (tyX10_ok 11 (by decide)) rfl rfl (Nat.le_of_ble_eq_true rfl) dX10_condition_31 (fun H locs hP hD hS => ?_)
          obtain ⟨hP, hD⟩ : kPD dC dI A [(jM, kMo vs (.ref lt) (.ref tx) (.int (nI (be))) (.int (nI (en))) (.int (nI (a1_10 + 1))) (.int (-1)) (.int 2) ((v14 : Value) : Value) ((v15 : Value) : Value) (.ref q6) (.ref q7) ((v18 : Value) : Value)), (tx, .inl (cT, nT, .inl gT)), (lt, .inl (cE, 128, .inl gE))] H := ⟨hP, hD⟩
          refine lv_aload_n hx hb dX10_condition_34 rfl (lv_at hl 1 rfl) ?_
          refine lv_iconst (v := 0) hx hb dX10_condition_35 (by decide) ?_
          refine lv_iconst (v := 0) hx hb dX10_condition_36 (by decide) ?_
          obtain ⟨hPc, hDc, hFc⟩ := kCut (wc := [(jM, kMo vs (.ref lt) (.ref tx) (.int (nI (be))) (.int (nI (en))) (.int (nI (a1_10 + 1))) (.int (-1)) (.int 2) ((v14 : Value) : Value) ((v15 : Value) : Value) (.ref q6) (.ref q7) ((v18 : Value) : Value)), (tx, .inl (cT, nT, .inl gT)), (lt, .inl (cE, 128, .inl gE))]) hP hD hS hA [0, 1, 2] rfl (by decide) rfl
          have hKc := hK.sb (tys2 := [(cT, .byte), (cE, .int)]) [0, 1] rfl
          refine va_calli (va_runV (As := [.int 0, .int 0]) (rest := []) ⟨hx, hb, hml, hown, hts⟩ (s_part10_2_0 l dC dI jM vs (((v14 : Value) : Value) : Value) (((v15 : Value) : Value) : Value) (((v18 : Value) : Value) : Value) lt q6 q7 tx cT nT gT be en (a1_10 + 1) (by omega) (by omega) (by omega) cE gE b6 n6 g6 hn6 hg6 b7 n7 g7 hn7 hg7 0 H.size) (cwV 2 hts (kG (List.forall_mem_cons.mpr ⟨(List.mem_cons_of_mem _ (List.mem_append_left _ (List.mem_of_getElem? (i := 48) rfl))), (List.forall_mem_cons.mpr ⟨(List.mem_cons_of_mem _ (List.mem_append_left _ (List.mem_of_getElem? (i := 47) rfl))), (List.forall_mem_cons.mpr ⟨(List.mem_cons_of_mem _ (List.mem_append_left _ (List.mem_of_getElem? (i := 46) rfl))), (List.forall_mem_cons.mpr ⟨(List.mem_cons_of_mem _ (List.mem_append_left _ (List.mem_of_getElem? (i := 0) rfl))), (fun _ h => absurd h List.not_mem_nil)⟩)⟩)⟩)⟩) (kGV _ _ _ _) (kFam (List.mem_cons_of_mem _ (List.mem_append_left _ (List.mem_of_getElem? (i := 45) rfl)))) gw_s_part10_2_0) rfl rfl rfl ⟨rfl, hd_X10_part⟩ ⟨(Nat.le_of_ble_eq_true rfl), (Nat.le_of_ble_eq_true rfl)⟩) (kW_V kS2_blind (kS2_give hX hS hFc) (va_recv hKc hPc (ci := 10) (q0 := 0) rfl rfl) hPc hKc hDc) rfl rfl hl.1 rfl (lv_room (Nat.le_of_ble_eq_true rfl)) dX10_condition_37 ⟨(Nat.le_of_ble_eq_true rfl), (Nat.le_of_ble_eq_true rfl)⟩) hS (fun q _ h => hFc q h) hFc (fun r_15 u t H1 locs ht hvm hw hB hz1 hk1 hS => ?_)
          obtain ⟨a1_16, xf_17, xd_18⟩ := u
          obtain ⟨hP1, hK1, hD1⟩ := hB
          rw [ht] at hP1
          try dsimp only at hw
          obtain ⟨hP, hD⟩ : kPD dC dI A [(jM, kMo vs (.ref lt) (.ref tx) (.int (nI (be))) (.int (nI (en))) (.int (nI (a1_16))) (.int xf_17) (.int xd_18) (((v14 : Value) : Value) : Value) (((v15 : Value) : Value) : Value) (.ref q6) (.ref q7) (((v18 : Value) : Value) : Value)), (tx, .inl (cT, nT, .inl gT)), (lt, .inl (cE, 128, .inl gE))] H1 := kJoinI hP hD [0, 1, 2] rfl hk1 hFc hP1 hD1 rfl [some 0, some 1, some 2] rfl rfl
          generalize H1 = H at hP hS ⊢
          have hw_19 := hw
          have hw_19_a := hw_19.2.1
          have hw_19_b := hw_19.1
          refine lv_istore hx hb dX10_condition_40 hl (by decide) (kTo [(4, .int r_15), (3, .int xb), (0, .ref jM), (1, .int 1), (2, .int p1)]) (fun ls hl => ?_)
          refine lv_iload_n hx hb dX10_condition_42 rfl (lv_at hl 1 rfl) ?_
          refine lv_if_ne (tgt := 51) hx hb dX10_condition_43 (by decide) (fun c_20 => ?_) (fun c_20 => ?_)
          · refine lv_iconst (v := 1) hx hb dX10_condition_51 (by decide) ?_
            refine lv_goto (tgt := 56) hx hb dX10_condition_52 (by decide) ?_
            refine lv_istore_n hx hb dX10_condition_56 rfl hl (by decide) (kTo [(3, .int 1), (4, .int r_15), (0, .ref jM), (1, .int 1), (2, .int p1)]) (fun ls hl => ?_)
            refine lv_goto (tgt := 7) hx hb dX10_condition_57 (by decide) ?_
            exact ih_k_6 a1_16 xf_17 xd_18 1 (by omega) hw_19.2.2 (Or.inr rfl) _ _ hP hD hS ls (lv_sub hl [0, 2, 3, 4] rfl) (by omega)
          · refine lv_iload hx hb dX10_condition_46 (lv_at hl 0 rfl) ?_
            refine lv_if_eq (tgt := 55) hx hb dX10_condition_48 (by decide) (fun c_21 => ?_) (fun c_21 => ?_)
            · refine lv_iconst (v := 0) hx hb dX10_condition_55 (by decide) ?_
              refine lv_istore_n hx hb dX10_condition_56 rfl hl (by decide) (kTo [(3, .int 0), (4, .int r_15), (0, .ref jM), (1, .int 1), (2, .int p1)]) (fun ls hl => ?_)
              refine lv_goto (tgt := 7) hx hb dX10_condition_57 (by decide) ?_
              exact ih_k_6 a1_16 xf_17 xd_18 0 (by omega) hw_19.2.2 (Or.inl rfl) _ _ hP hD hS ls (lv_sub hl [0, 2, 3, 4] rfl) (by omega)
            · refine lv_iconst (v := 1) hx hb dX10_condition_51 (by decide) ?_
              refine lv_goto (tgt := 56) hx hb dX10_condition_52 (by decide) ?_
              refine lv_istore_n hx hb dX10_condition_56 rfl hl (by decide) (kTo [(3, .int 1), (4, .int r_15), (0, .ref jM), (1, .int 1), (2, .int p1)]) (fun ls hl => ?_)
              refine lv_goto (tgt := 7) hx hb dX10_condition_57 (by decide) ?_
              exact ih_k_6 a1_16 xf_17 xd_18 1 (by omega) hw_19.2.2 (Or.inr rfl) _ _ hP hD hS ls (lv_sub hl [0, 2, 3, 4] rfl) (by omega)
  exact lp_k_6 (en - a1_2 + 1) a1_2 xf_3 xd_4 r_1 (by omega) hw_5.2.2 hw_5.1 _ _ hP hD hS ls (lv_sub hl [0, 1, 2, 3] rfl) (by omega)
