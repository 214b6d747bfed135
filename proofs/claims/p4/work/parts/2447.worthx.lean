def w_s_worthOf5x : List Cond := .code yX5_worthOf cX5_worthOf 7 (some .int) :: ([.initialized RX5, .selects RX5 yX5_reckon yX5_reckon, .instanceMethod yX5_reckon, .methodLink RX5 26 yX5_reckon] ++ (wsX60 ++ (w_s_reckon5x)))
theorem gw_s_worthOf5x : (w_s_worthOf5x).all goodWord = true := kGc rfl (kGa (by decide +kernel) (kGa gw_wsX60 gw_s_reckon5x))
set_option maxHeartbeats 4000000 in
set_option maxRecDepth 100000 in
theorem s_worthOf5x (l : Launch) (dC : Nat → ClassId) (dI : Nat → Nat → Nat) (jK : Nat) (k0 : Nat) (k1 : Nat) (cK : ClassId) (cO : ClassId) (l0 : Nat → Int32) (l1 : Nat → Int32) (ru : Nat) (sA : Nat) (cl : Nat) (cS : ClassId) (cc : ClassId) (nS : Nat) (nC : Nat) (gS : Nat → Int32) (gC : Nat → Int32) (hnS : nS ≤ 200) (hnC : nC ≤ 200) (t9 : List kTr) (M9 : Nat) (hru : kRu t9 M9 nS nC gS gC) (lab : Nat) (hlab : lab < 100) (sz : Nat) : Met l yX5_worthOf w_s_worthOf5x ({ frames := 3, cells := 0, slots := 0, locals := 180 }) (kW dC dI [.ref jK, .ref ru, .int (nI (lab))] [(jK, .inr (5, [.ref k0, .ref k1])), (k0, .inl (cK, 8, .inl l0)), (k1, .inl (cO, 32, .inl l1))] [(cK, .int), (cO, .int), (cS, .int), (cc, .int)] (kNF dC dI [(ru, .inr (6, [.ref sA, .ref cl])), (sA, .inl (cS, nS, .inl gS)), (cl, .inl (cc, nC, .inl gC))] (va_A [(jK, .inr (5, [.ref k0, .ref k1])), (k0, .inl (cK, 8, .inl l0)), (k1, .inl (cO, 32, .inl l1))] sz)) sz) (va_Qi (fun (r : Int32) (m1 : (Nat → Int32)) => r = kWoT l0 lab t9) (fun (m1 : (Nat → Int32)) => fun t : State => kB dC dI [(jK, .inr (5, [.ref k0, .ref k1])), (k0, .inl (cK, 8, .inl l0)), (k1, .inl (cO, 32, .inl m1))] [(cK, .int), (cO, .int), (cS, .int), (cc, .int)] (va_A [(jK, .inr (5, [.ref k0, .ref k1])), (k0, .inl (cK, 8, .inl l0)), (k1, .inl (cO, 32, .inl l1))] sz) t) (va_A [(jK, .inr (5, [.ref k0, .ref k1])), (k0, .inl (cK, 8, .inl l0)), (k1, .inl (cO, 32, .inl l1))] sz)) 0 0 (va_A [(jK, .inr (5, [.ref k0, .ref k1])), (k0, .inl (cK, 8, .inl l0)), (k1, .inl (cO, 32, .inl l1))] sz) := by
  refine Met.ofW (cc := cX5_worthOf) (maxL := 7) (ret := (some .int)) (by decide) rfl ?_
  intro p e s m args below meth c s₁ B hml hv
  obtain ⟨rfl, hsz, hP, hK, hD0, hX⟩ := hv
  have hx := B.exec
  have hb := B.bytes
  have hr := B.returns
  have hts := atoms_spec (ws := w_s_worthOf5x) B.pre
  have hown : s.vm.findClass RX5 = some m.cls := findClass_of_methodNamed B.named
  have hlocks := B.notSynchronized
  subst hsz
  have hD := hD0.self (sz := s.heap.size)
  generalize hAe : va_A [(jK, .inr (5, [.ref k0, .ref k1])), (k0, .inl (cK, 8, .inl l0)), (k1, .inl (cO, 32, .inl l1))] s.heap.size = A at hD hX ⊢
  have hA : ∀ q : Nat, s.heap.size ≤ q → A q := fun q h => by rw [← hAe]; exact Or.inr h
  have hS : va_S A s.heap s.heap [] := va_S.rf
  have hP : va_P (dC, dI) vwCl [(jK, .inr (5, [.ref k0, .ref k1])), (k0, .inl (cK, 8, .inl l0)), (k1, .inl (cO, 32, .inl l1))] s.heap := hP
  have hl := lv_entry ([.ref jK, .ref ru, .int (nI (lab))]) (n := 7) (Nat.le_of_ble_eq_true rfl)
  rw [lg_entry_eq]
  generalize (lg_sl ([.ref jK, .ref ru, .int (nI (lab))]) ++ List.replicate (7 - (lg_sl ([.ref jK, .ref ru, .int (nI (lab))])).length) Slot.unset).toArray = ls at hl ⊢
  have hl : lv_has ls 7 [(0, .ref jK), (1, .ref ru), (2, .int (nI (lab)))] := hl
  refine kQ (fun Q hQ => ?_)
  have hln9 : nC = 4 * t9.length := hru.2.1.trans (kRw_len t9 0)
  refine lv_aload_n hx hb dX5_worthOf_0 rfl (lv_at hl 1 rfl) ?_
  refine lv_ifnonnull (tgt := 6) hx hb dX5_worthOf_1 kc_t_1_5 ?_
  refine lv_aload_n hx hb dX5_worthOf_6 rfl (lv_at hl 1 rfl) ?_
  have hPR := kFz_at hX.1 hS
  refine va_getN (D := (dC, dI)) (ci := 6) (v := .ref cl) (C := RX6) (T := TX6) (N := 2) hx hb hts (fun _ h => List.mem_cons_of_mem _ (List.mem_append_right _ (List.mem_append_left _ h))) hown hK hPR 0 rfl rfl 1 kc_l_1_2 (va_Nw.use rfl (hX.2 _ (List.mem_of_getElem? (i := 11) rfl))) (fun _ h9 => h9) rfl dX5_worthOf_7 ?_
  refine lv_astore_n hx hb dX5_worthOf_10 rfl hl kc_l_3_7 (kTo [(3, .ref cl), (0, .ref jK), (1, .ref ru), (2, .int (nI (lab)))]) (fun ls hl => ?_)
  refine lv_iconst (v := 0) hx hb dX5_worthOf_11 kc_i_0 ?_
  refine lv_istore hx hb dX5_worthOf_12 hl kc_l_4_7 (kTo [(4, .int 0), (3, .ref cl), (0, .ref jK), (1, .ref ru), (2, .int (nI (lab)))]) (fun ls hl => ?_)
  have lp_k_1 : ∀ (n9 : Nat) (i : Nat) (m9 : Nat → Int32) (k9 : Nat) (ivk_1_0 : i = 4 * k9) (ivk_1_1 : k9 ≤ t9.length) (ivk_1_2 : kWoT l0 lab (t9.drop k9) = kWoT l0 lab t9) (H : Heap) (locs : List Loc) (_ : va_P (dC, dI) vwCl [(jK, .inr (5, [.ref k0, .ref k1])), (k0, .inl (cK, 8, .inl l0)), (k1, .inl (cO, 32, .inl m9))] H) (_ : va_D A [(jK, .inr (5, [.ref k0, .ref k1])), (k0, .inl (cK, 8, .inl l0)), (k1, .inl (cO, 32, .inl m9))]) (_ : va_S A s.heap H locs) (ls : Array Slot) (_ : lv_has ls 7 [(4, .int (nI (i))), (3, .ref cl), (0, .ref jK), (1, .ref ru), (2, .int (nI (lab)))]) (_ : nC - i < n9), W p l e (headSpec w_s_worthOf5x ({ frames := 3, cells := 0, slots := 0, locals := 180 })).room s m (#[.ref jK, .ref ru, .int (nI (lab))] : Array Value) below meth c H locs 0 0 Q (F0 m 14 ls []) := by
    intro n9
    induction n9 with
    | zero => intro i m9 k9 ivk_1_0 ivk_1_1 ivk_1_2 H locs hP hD hS ls hl hm9; exact absurd hm9 (Nat.not_lt_zero _)
    | succ n9 ih_k_1 =>
      intro i m9 k9 ivk_1_0 ivk_1_1 ivk_1_2 H locs hP hD hS ls hl hm9
      refine lv_iload hx hb dX5_worthOf_14 (lv_at hl 0 rfl) ?_
      refine lv_iconst (v := 4) hx hb dX5_worthOf_16 kc_i_4 ?_
      refine lv_iadd hx hb dX5_worthOf_17 ?_
      refine lv_topi (fun y_2 ey_2 => ?_)
      obtain rfl : y_2 = nI (i + 4) := ey_2.trans (nI_add (i) (4))
      refine lv_aload_n hx hb dX5_worthOf_18 rfl (lv_at hl 1 rfl) ?_
      have hPR := kFz_at hX.1 hS
      refine va_alen hx hb hK hPR 2 3 rfl rfl (v := nI (nC)) rfl dX5_worthOf_19 ?_
      refine lv_icmp_gt (tgt := 92) hx hb dX5_worthOf_20 kc_t_20_72 (fun c_3 => ?_) (fun c_3 => ?_)
      · have bd_5 : nC < 2147483648 := by omega
        have bd_6 : i + 4 < 2147483648 := by omega
        have hn_4 := klt (a := nC) (b := i + 4) bd_5 bd_6 c_3
        refine lv_iconst (v := 0) hx hb dX5_worthOf_92 kc_i_0 ?_
        have hP9 := hP
        have hD9 := hD
        have hK9 := hK
        rw [hQ]
        exact W.iret (v := 0) hx hb hr (fun t ht hW => ⟨⟨0, m9, rfl, (by rw [← ivk_1_2, List.drop_eq_nil_of_le (by have h9 := hru.2.1; rw [kRw_len] at h9; omega)]; rfl),  by rw [ht]; exact hP9, va_K.moved hW.alike hK9, hD9⟩, hS.F ht⟩) hS.2.2 dX5_worthOf_93
      · have bd_8 : nC < 2147483648 := by omega
        have bd_9 : i + 4 < 2147483648 := by omega
        have hn_7 := knlt (a := nC) (b := i + 4) bd_8 bd_9 c_3
        have hk9 : k9 < t9.length := by have h9 := hru.2.1; rw [kRw_len] at h9; omega
        obtain ⟨j9, c9, m8, o9, hd9, hc0, hc1, hc2, hc3, hb9, hsc, hsm, hgd⟩ := kRu_at hru hk9
        have hj8 : j9 < 8 := hgd.1
        have hi9 := ivk_1_0
        refine lv_aload_n hx hb dX5_worthOf_23 rfl (lv_at hl 1 rfl) ?_
        refine lv_iload hx hb dX5_worthOf_24 (lv_at hl 0 rfl) ?_
        refine lv_iconst (v := 1) hx hb dX5_worthOf_26 kc_i_1 ?_
        refine lv_iadd hx hb dX5_worthOf_27 ?_
        refine lv_topi (fun y_10 ey_10 => ?_)
        obtain rfl : y_10 = nI (i + 1) := ey_10.trans (nI_add (i) (1))
        have hPR := kFz_at hX.1 hS
        have bd_11 : i + 1 < nC := by omega
        refine va_iald hx hb hK hPR 2 3 rfl rfl (vp_in_nI (n := i + 1) (N := nC) bd_11 bd_8) dX5_worthOf_28 ?_
        refine lv_topi (fun x_12 ex_12 => ?_)
        obtain rfl : x_12 = nI (o9) := by rw [ex_12, nI_clamp (n := i + 1) (by omega), hi9]; exact hc1
        refine lv_istore hx hb dX5_worthOf_29 hl kc_l_5_7 (kTo [(5, .int (nI (o9))), (4, .int (nI (i))), (3, .ref cl), (0, .ref jK), (1, .ref ru), (2, .int (nI (lab)))]) (fun ls hl => ?_)
        refine lv_aload_n hx hb dX5_worthOf_31 rfl (lv_at hl 2 rfl) ?_
        refine lv_iload hx hb dX5_worthOf_32 (lv_at hl 1 rfl) ?_
        refine lv_iconst (v := 2) hx hb dX5_worthOf_34 kc_i_2 ?_
        refine lv_iadd hx hb dX5_worthOf_35 ?_
        refine lv_topi (fun y_13 ey_13 => ?_)
        obtain rfl : y_13 = nI (i + 2) := ey_13.trans (nI_add (i) (2))
        have hPR := kFz_at hX.1 hS
        have bd_14 : i + 2 < nC := by omega
        refine va_iald hx hb hK hPR 2 3 rfl rfl (vp_in_nI (n := i + 2) (N := nC) bd_14 bd_8) dX5_worthOf_36 ?_
        refine lv_topi (fun x_15 ex_15 => ?_)
        obtain rfl : x_15 = nI (o9 + c9.length) := by rw [ex_15, nI_clamp (n := i + 2) (by omega), hi9]; exact hc2
        refine lv_istore hx hb dX5_worthOf_37 hl kc_l_6_7 (kTo [(6, .int (nI (o9 + c9.length))), (5, .int (nI (o9))), (4, .int (nI (i))), (3, .ref cl), (0, .ref jK), (1, .ref ru), (2, .int (nI (lab)))]) (fun ls hl => ?_)
        refine lv_aload_n hx hb dX5_worthOf_39 rfl (lv_at hl 3 rfl) ?_
        refine lv_iload hx hb dX5_worthOf_40 (lv_at hl 2 rfl) ?_
        have hPR := kFz_at hX.1 hS
        have bd_16 : i < nC := by omega
        refine va_iald hx hb hK hPR 2 3 rfl rfl (vp_in_nI (n := i) (N := nC) bd_16 bd_8) dX5_worthOf_42 ?_
        refine lv_topi (fun x_17 ex_17 => ?_)
        obtain rfl : x_17 = nI (j9) := by rw [ex_17, nI_clamp (n := i) (by omega), hi9]; exact hc0
        refine lv_iload_n hx hb dX5_worthOf_43 rfl (lv_at hl 6 rfl) ?_
        refine lv_icmp_ne (tgt := 86) hx hb dX5_worthOf_44 kc_t_44_42 (fun c_18 => ?_) (fun c_18 => ?_)
        · have bd_20 : j9 < 2147483648 := by omega
          have bd_21 : lab < 2147483648 := by omega
          have hn_19 := kneq (a := j9) (b := lab) bd_20 bd_21 c_18
          refine lv_iinc (v := nI (i + 4)) hx hb dX5_worthOf_86 hl (k := 2) rfl (kInc _ 4) kc_l_4_7 (kTo [(4, .int (nI (i + 4))), (6, .int (nI (o9 + c9.length))), (5, .int (nI (o9))), (3, .ref cl), (0, .ref jK), (1, .ref ru), (2, .int (nI (lab)))]) (fun ls hl => ?_)
          refine lv_goto (tgt := 14) hx hb dX5_worthOf_89 kc_t_89_m75 ?_
          exact ih_k_1 (i + 4) m9 (k9 + 1) (by omega) (by omega) (by rw [← ivk_1_2, kWoT_miss hd9 (fun z => by have h9 := z.1; omega)]) _ _ hP hD hS ls (lv_sub hl [0, 3, 4, 5, 6] rfl) (by omega)
        · have bd_23 : j9 < 2147483648 := by omega
          have bd_24 : lab < 2147483648 := by omega
          have hn_22 := keq (a := j9) (b := lab) bd_23 bd_24 c_18
          refine lv_iload hx hb dX5_worthOf_47 (lv_at hl 1 rfl) ?_
          refine lv_iload hx hb dX5_worthOf_49 (lv_at hl 0 rfl) ?_
          refine lv_icmp_eq (tgt := 69) hx hb dX5_worthOf_51 kc_t_51_18 (fun c_25 => ?_) (fun c_25 => ?_)
          · have bd_27 : o9 < 2147483648 := by omega
            have bd_28 : o9 + c9.length < 2147483648 := by omega
            have hn_26 := keq (a := o9) (b := o9 + c9.length) bd_27 bd_28 c_25
            have hms : kHn M9 15 m8 := hgd.2.2
            have hfm := kHn_fe (lt := l0) hms (by decide)
            refine lv_aload_n hx hb dX5_worthOf_69 rfl (lv_at hl 4 rfl) ?_
            refine lv_aload_n hx hb dX5_worthOf_70 rfl (lv_at hl 5 rfl) ?_
            have hPR := kFz_at hX.1 hS
            refine va_getN (D := (dC, dI)) (ci := 6) (v := .ref sA) (C := RX6) (T := TX6) (N := 2) hx hb hts (fun _ h => List.mem_cons_of_mem _ (List.mem_append_right _ (List.mem_append_left _ h))) hown hK hPR 0 rfl rfl 0 kc_l_0_2 (va_Nw.use rfl (hX.2 _ (List.mem_of_getElem? (i := 10) rfl))) (fun _ h9 => h9) rfl dX5_worthOf_71 ?_
            refine lv_iload hx hb dX5_worthOf_74 (lv_at hl 0 rfl) ?_
            refine lv_aload_n hx hb dX5_worthOf_76 rfl (lv_at hl 3 rfl) ?_
            refine lv_iload hx hb dX5_worthOf_77 (lv_at hl 2 rfl) ?_
            refine lv_iconst (v := 3) hx hb dX5_worthOf_79 kc_i_3 ?_
            refine lv_iadd hx hb dX5_worthOf_80 ?_
            refine lv_topi (fun y_29 ey_29 => ?_)
            obtain rfl : y_29 = nI (i + 3) := ey_29.trans (nI_add (i) (3))
            have hPR := kFz_at hX.1 hS
            have bd_30 : i + 3 < nC := by omega
            refine va_iald hx hb hK hPR 2 3 rfl rfl (vp_in_nI (n := i + 3) (N := nC) bd_30 bd_8) dX5_worthOf_81 ?_
            refine lv_topi (fun x_31 ex_31 => ?_)
            obtain rfl : x_31 = nI (o9 + c9.length + m8.length) := by rw [ex_31, nI_clamp (n := i + 3) (by omega), hi9]; exact hc3
            have bd_32 : (o9 + c9.length + m8.length) = (o9 + c9.length) + m8.length := by omega
            have bd_33 : (o9 + c9.length + m8.length) ≤ nS := by omega
            have hCu := kCut (wc := [(jK, .inr (5, [.ref k0, .ref k1])), (k0, .inl (cK, 8, .inl l0)), (k1, .inl (cO, 32, .inl m9))]) hP hD hS hA [0, 1, 2] rfl kc_nd_138 rfl
            have hPc := hCu.1
            have hDc := hCu.2.1
            have hFc := hCu.2.2
            have hKc := hK.sb (tys2 := [(cK, .int), (cO, .int), (cS, .int), (cc, .int)]) [0, 1, 2, 3] rfl
            refine va_calli (va_runV (As := [.ref sA, .int (nI (o9 + c9.length)), .int (nI (o9 + c9.length + m8.length))]) (rest := []) ⟨hx, hb, hml, hown, hts⟩ (s_reckon5x l dC dI jK k0 k1 cK cO l0 m9 ru sA cl cS cc nS nC gS gC hnS hnC (o9 + c9.length) (o9 + c9.length + m8.length) m8 hsm bd_32 bd_33 hfm.1 hfm.2 H.size) (cwV 3 hts (kG (List.forall_mem_cons.mpr ⟨(List.mem_cons_of_mem _ (List.mem_append_left _ (List.mem_of_getElem? (i := 3) rfl))), (List.forall_mem_cons.mpr ⟨(List.mem_cons_of_mem _ (List.mem_append_left _ (List.mem_of_getElem? (i := 2) rfl))), (List.forall_mem_cons.mpr ⟨(List.mem_cons_of_mem _ (List.mem_append_left _ (List.mem_of_getElem? (i := 1) rfl))), (List.forall_mem_cons.mpr ⟨(List.mem_cons_of_mem _ (List.mem_append_left _ (List.mem_of_getElem? (i := 0) rfl))), (fun _ h => absurd h List.not_mem_nil)⟩)⟩)⟩)⟩) (kGV _ _ _ _) (fun _ h => List.mem_cons_of_mem _ (List.mem_append_right _ (List.mem_append_right _ h))) gw_s_reckon5x) rfl rfl rfl ⟨rfl, hd_X5_reckon⟩ ⟨(Nat.le_of_ble_eq_true rfl), (Nat.le_of_ble_eq_true rfl)⟩) (kW_V kNF_blind (kNF_give hX hS hFc) (va_recv hKc hPc (ci := 5) (q0 := 0) rfl rfl) hPc hKc hDc) rfl rfl hl.1 rfl (lv_room (Nat.le_of_ble_eq_true rfl)) dX5_worthOf_82 ⟨(Nat.le_of_ble_eq_true rfl), (Nat.le_of_ble_eq_true rfl)⟩) hS (fun q _ h => hFc q h) hFc (fun r_34 m1_35 t H_36 locs ht hvm hw hB hz1 hk1 hS => ?_)
            try dsimp only at hw
            have hPD : kPD dC dI A [(jK, .inr (5, [.ref k0, .ref k1])), (k0, .inl (cK, 8, .inl l0)), (k1, .inl (cO, 32, .inl m1_35))] H_36 := kJoinX hP hD [0, 1, 2] rfl hk1 hFc hB.1 ht hB.2.2 rfl [some 0, some 1, some 2] rfl rfl
            have hP := hPD.1
            have hD := hPD.2
            have hw_37 := hw
            have hP9 := hP
            have hD9 := hD
            have hK9 := hK
            rw [hQ]
            exact W.iret (v := r_34) hx hb hr (fun t ht hW => ⟨⟨r_34, m1_35, rfl, (by rw [← ivk_1_2, kWoT_hit hd9 ⟨by omega, Or.inl (List.eq_nil_of_length_eq_zero (by omega))⟩]; exact hw_37),  by rw [ht]; exact hP9, va_K.moved hW.alike hK9, hD9⟩, hS.F ht⟩) hS.2.2 dX5_worthOf_85
          · have bd_39 : o9 < 2147483648 := by omega
            have bd_40 : o9 + c9.length < 2147483648 := by omega
            have hn_38 := kneq (a := o9) (b := o9 + c9.length) bd_39 bd_40 c_25
            have hne9 : ¬ c9 = [] := fun z => by have h9 : c9.length = 0 := (by rw [z]; rfl); omega
            have hcb : kHb M9 18 c9 := hgd.2.1.resolve_left hne9
            have hfe := kHb_fe (lt := l0) hcb (by decide)
            refine lv_aload_n hx hb dX5_worthOf_54 rfl (lv_at hl 4 rfl) ?_
            refine lv_aload_n hx hb dX5_worthOf_55 rfl (lv_at hl 5 rfl) ?_
            have hPR := kFz_at hX.1 hS
            refine va_getN (D := (dC, dI)) (ci := 6) (v := .ref sA) (C := RX6) (T := TX6) (N := 2) hx hb hts (fun _ h => List.mem_cons_of_mem _ (List.mem_append_right _ (List.mem_append_left _ h))) hown hK hPR 0 rfl rfl 0 kc_l_0_2 (va_Nw.use rfl (hX.2 _ (List.mem_of_getElem? (i := 10) rfl))) (fun _ h9 => h9) rfl dX5_worthOf_56 ?_
            refine lv_iload hx hb dX5_worthOf_59 (lv_at hl 1 rfl) ?_
            refine lv_iload hx hb dX5_worthOf_61 (lv_at hl 0 rfl) ?_
            have bd_41 : (o9 + c9.length) = o9 + c9.length := by omega
            have bd_42 : (o9 + c9.length) ≤ nS := by omega
            have hCu := kCut (wc := [(jK, .inr (5, [.ref k0, .ref k1])), (k0, .inl (cK, 8, .inl l0)), (k1, .inl (cO, 32, .inl m9))]) hP hD hS hA [0, 1, 2] rfl kc_nd_138 rfl
            have hPc := hCu.1
            have hDc := hCu.2.1
            have hFc := hCu.2.2
            have hKc := hK.sb (tys2 := [(cK, .int), (cO, .int), (cS, .int), (cc, .int)]) [0, 1, 2, 3] rfl
            refine va_calli (va_runV (As := [.ref sA, .int (nI (o9)), .int (nI (o9 + c9.length))]) (rest := []) ⟨hx, hb, hml, hown, hts⟩ (s_reckon5x l dC dI jK k0 k1 cK cO l0 m9 ru sA cl cS cc nS nC gS gC hnS hnC o9 (o9 + c9.length) c9 hsc bd_41 bd_42 hfe.1 hfe.2 H.size) (cwV 3 hts (kG (List.forall_mem_cons.mpr ⟨(List.mem_cons_of_mem _ (List.mem_append_left _ (List.mem_of_getElem? (i := 3) rfl))), (List.forall_mem_cons.mpr ⟨(List.mem_cons_of_mem _ (List.mem_append_left _ (List.mem_of_getElem? (i := 2) rfl))), (List.forall_mem_cons.mpr ⟨(List.mem_cons_of_mem _ (List.mem_append_left _ (List.mem_of_getElem? (i := 1) rfl))), (List.forall_mem_cons.mpr ⟨(List.mem_cons_of_mem _ (List.mem_append_left _ (List.mem_of_getElem? (i := 0) rfl))), (fun _ h => absurd h List.not_mem_nil)⟩)⟩)⟩)⟩) (kGV _ _ _ _) (fun _ h => List.mem_cons_of_mem _ (List.mem_append_right _ (List.mem_append_right _ h))) gw_s_reckon5x) rfl rfl rfl ⟨rfl, hd_X5_reckon⟩ ⟨(Nat.le_of_ble_eq_true rfl), (Nat.le_of_ble_eq_true rfl)⟩) (kW_V kNF_blind (kNF_give hX hS hFc) (va_recv hKc hPc (ci := 5) (q0 := 0) rfl rfl) hPc hKc hDc) rfl rfl hl.1 rfl (lv_room (Nat.le_of_ble_eq_true rfl)) dX5_worthOf_63 ⟨(Nat.le_of_ble_eq_true rfl), (Nat.le_of_ble_eq_true rfl)⟩) hS (fun q _ h => hFc q h) hFc (fun r_43 m1_44 t H_45 locs ht hvm hw hB hz1 hk1 hS => ?_)
            try dsimp only at hw
            have hPD : kPD dC dI A [(jK, .inr (5, [.ref k0, .ref k1])), (k0, .inl (cK, 8, .inl l0)), (k1, .inl (cO, 32, .inl m1_44))] H_45 := kJoinX hP hD [0, 1, 2] rfl hk1 hFc hB.1 ht hB.2.2 rfl [some 0, some 1, some 2] rfl rfl
            have hP := hPD.1
            have hD := hPD.2
            have hw_46 := hw
            refine lv_if_eq (tgt := 86) hx hb dX5_worthOf_66 kc_t_66_20 (fun c_47 => ?_) (fun c_47 => ?_)
            · refine lv_iinc (v := nI (i + 4)) hx hb dX5_worthOf_86 hl (k := 2) rfl (kInc _ 4) kc_l_4_7 (kTo [(4, .int (nI (i + 4))), (6, .int (nI (o9 + c9.length))), (5, .int (nI (o9))), (3, .ref cl), (0, .ref jK), (1, .ref ru), (2, .int (nI (lab)))]) (fun ls hl => ?_)
              refine lv_goto (tgt := 14) hx hb dX5_worthOf_89 kc_t_89_m75 ?_
              exact ih_k_1 (i + 4) m1_44 (k9 + 1) (by omega) (by omega) (by rw [← ivk_1_2, kWoT_miss hd9 (fun z => z.2.elim hne9 (fun y => y (hw_46.symm.trans c_47)))]) _ _ hP hD hS ls (lv_sub hl [0, 3, 4, 5, 6] rfl) (by omega)
            · have hms : kHn M9 15 m8 := hgd.2.2
              have hfm := kHn_fe (lt := l0) hms (by decide)
              refine lv_aload_n hx hb dX5_worthOf_69 rfl (lv_at hl 4 rfl) ?_
              refine lv_aload_n hx hb dX5_worthOf_70 rfl (lv_at hl 5 rfl) ?_
              have hPR := kFz_at hX.1 hS
              refine va_getN (D := (dC, dI)) (ci := 6) (v := .ref sA) (C := RX6) (T := TX6) (N := 2) hx hb hts (fun _ h => List.mem_cons_of_mem _ (List.mem_append_right _ (List.mem_append_left _ h))) hown hK hPR 0 rfl rfl 0 kc_l_0_2 (va_Nw.use rfl (hX.2 _ (List.mem_of_getElem? (i := 10) rfl))) (fun _ h9 => h9) rfl dX5_worthOf_71 ?_
              refine lv_iload hx hb dX5_worthOf_74 (lv_at hl 0 rfl) ?_
              refine lv_aload_n hx hb dX5_worthOf_76 rfl (lv_at hl 3 rfl) ?_
              refine lv_iload hx hb dX5_worthOf_77 (lv_at hl 2 rfl) ?_
              refine lv_iconst (v := 3) hx hb dX5_worthOf_79 kc_i_3 ?_
              refine lv_iadd hx hb dX5_worthOf_80 ?_
              refine lv_topi (fun y_48 ey_48 => ?_)
              obtain rfl : y_48 = nI (i + 3) := ey_48.trans (nI_add (i) (3))
              have hPR := kFz_at hX.1 hS
              have bd_49 : i + 3 < nC := by omega
              refine va_iald hx hb hK hPR 2 3 rfl rfl (vp_in_nI (n := i + 3) (N := nC) bd_49 bd_8) dX5_worthOf_81 ?_
              refine lv_topi (fun x_50 ex_50 => ?_)
              obtain rfl : x_50 = nI (o9 + c9.length + m8.length) := by rw [ex_50, nI_clamp (n := i + 3) (by omega), hi9]; exact hc3
              have bd_51 : (o9 + c9.length + m8.length) = (o9 + c9.length) + m8.length := by omega
              have bd_52 : (o9 + c9.length + m8.length) ≤ nS := by omega
              have hCu := kCut (wc := [(jK, .inr (5, [.ref k0, .ref k1])), (k0, .inl (cK, 8, .inl l0)), (k1, .inl (cO, 32, .inl m1_44))]) hP hD hS hA [0, 1, 2] rfl kc_nd_138 rfl
              have hPc := hCu.1
              have hDc := hCu.2.1
              have hFc := hCu.2.2
              have hKc := hK.sb (tys2 := [(cK, .int), (cO, .int), (cS, .int), (cc, .int)]) [0, 1, 2, 3] rfl
              refine va_calli (va_runV (As := [.ref sA, .int (nI (o9 + c9.length)), .int (nI (o9 + c9.length + m8.length))]) (rest := []) ⟨hx, hb, hml, hown, hts⟩ (s_reckon5x l dC dI jK k0 k1 cK cO l0 m1_44 ru sA cl cS cc nS nC gS gC hnS hnC (o9 + c9.length) (o9 + c9.length + m8.length) m8 hsm bd_51 bd_52 hfm.1 hfm.2 H_45.size) (cwV 3 hts (kG (List.forall_mem_cons.mpr ⟨(List.mem_cons_of_mem _ (List.mem_append_left _ (List.mem_of_getElem? (i := 3) rfl))), (List.forall_mem_cons.mpr ⟨(List.mem_cons_of_mem _ (List.mem_append_left _ (List.mem_of_getElem? (i := 2) rfl))), (List.forall_mem_cons.mpr ⟨(List.mem_cons_of_mem _ (List.mem_append_left _ (List.mem_of_getElem? (i := 1) rfl))), (List.forall_mem_cons.mpr ⟨(List.mem_cons_of_mem _ (List.mem_append_left _ (List.mem_of_getElem? (i := 0) rfl))), (fun _ h => absurd h List.not_mem_nil)⟩)⟩)⟩)⟩) (kGV _ _ _ _) (fun _ h => List.mem_cons_of_mem _ (List.mem_append_right _ (List.mem_append_right _ h))) gw_s_reckon5x) rfl rfl rfl ⟨rfl, hd_X5_reckon⟩ ⟨(Nat.le_of_ble_eq_true rfl), (Nat.le_of_ble_eq_true rfl)⟩) (kW_V kNF_blind (kNF_give hX hS hFc) (va_recv hKc hPc (ci := 5) (q0 := 0) rfl rfl) hPc hKc hDc) rfl rfl hl.1 rfl (lv_room (Nat.le_of_ble_eq_true rfl)) dX5_worthOf_82 ⟨(Nat.le_of_ble_eq_true rfl), (Nat.le_of_ble_eq_true rfl)⟩) hS (fun q _ h => hFc q h) hFc (fun r_53 m1_54 t H_55 locs ht hvm hw hB hz1 hk1 hS => ?_)
              try dsimp only at hw
              have hPD : kPD dC dI A [(jK, .inr (5, [.ref k0, .ref k1])), (k0, .inl (cK, 8, .inl l0)), (k1, .inl (cO, 32, .inl m1_54))] H_55 := kJoinX hP hD [0, 1, 2] rfl hk1 hFc hB.1 ht hB.2.2 rfl [some 0, some 1, some 2] rfl rfl
              have hP := hPD.1
              have hD := hPD.2
              have hw_56 := hw
              have hP9 := hP
              have hD9 := hD
              have hK9 := hK
              rw [hQ]
              exact W.iret (v := r_53) hx hb hr (fun t ht hW => ⟨⟨r_53, m1_54, rfl, (by rw [← ivk_1_2, kWoT_hit hd9 ⟨by omega, Or.inr (fun z => c_47 (hw_46.trans z))⟩]; exact hw_56),  by rw [ht]; exact hP9, va_K.moved hW.alike hK9, hD9⟩, hS.F ht⟩) hS.2.2 dX5_worthOf_85
  exact lp_k_1 (nC - 0 + 1) 0 l1 0 (by omega) (by omega) rfl _ _ hP hD hS ls (lv_sub hl [0, 1, 2, 3, 4] rfl) (by omega)

def w_s_setLetter5x : List Cond := .code yX5_setLetter cX5_setLetter 3 none :: ([.fieldLink RX5 9 "NotEnded$Reckoner" "letters" "[I"] ++ (wsX50))
theorem gw_s_setLetter5x : (w_s_setLetter5x).all goodWord = true := kGc rfl (kGa (by decide +kernel) gw_wsX50)
set_option maxHeartbeats 4000000 in
set_option maxRecDepth 100000 in
theorem s_setLetter5x (l : Launch) (dC : Nat → ClassId) (dI : Nat → Nat → Nat) (jK : Nat) (k0 : Nat) (k1 : Nat) (cK : ClassId) (cO : ClassId) (l0 : Nat → Int32) (l1 : Nat → Int32) (pj : Nat) (hpj : pj < 8) (p1 : Int32) (sz : Nat) : Met l yX5_setLetter w_s_setLetter5x ({ frames := 1, cells := 0, slots := 0, locals := 60 }) (kW dC dI [.ref jK, .int (nI (pj)), .int p1] [(jK, .inr (5, [.ref k0, .ref k1])), (k0, .inl (cK, 8, .inl l0)), (k1, .inl (cO, 32, .inl l1))] [(cK, .int), (cO, .int)] kT sz) (va_Qv (fun (m0 : (Nat → Int32)) => m0 = upd l0 pj p1) (fun (m0 : (Nat → Int32)) => fun t : State => kB dC dI [(jK, .inr (5, [.ref k0, .ref k1])), (k0, .inl (cK, 8, .inl m0)), (k1, .inl (cO, 32, .inl l1))] [(cK, .int), (cO, .int)] (va_A [(jK, .inr (5, [.ref k0, .ref k1])), (k0, .inl (cK, 8, .inl l0)), (k1, .inl (cO, 32, .inl l1))] sz) t) (va_A [(jK, .inr (5, [.ref k0, .ref k1])), (k0, .inl (cK, 8, .inl l0)), (k1, .inl (cO, 32, .inl l1))] sz)) 0 0 (va_A [(jK, .inr (5, [.ref k0, .ref k1])), (k0, .inl (cK, 8, .inl l0)), (k1, .inl (cO, 32, .inl l1))] sz) := by
  refine Met.ofW (cc := cX5_setLetter) (maxL := 3) (ret := none) (by decide) rfl ?_
  intro p e s m args below meth c s₁ B hml hv
  obtain ⟨rfl, hsz, hP, hK, hD0, hX⟩ := hv
  have hx := B.exec
  have hb := B.bytes
  have hr := B.returns
  have hts := atoms_spec (ws := w_s_setLetter5x) B.pre
  have hown : s.vm.findClass RX5 = some m.cls := findClass_of_methodNamed B.named
  have hlocks := B.notSynchronized
  subst hsz
  have hD := hD0.self (sz := s.heap.size)
  generalize hAe : va_A [(jK, .inr (5, [.ref k0, .ref k1])), (k0, .inl (cK, 8, .inl l0)), (k1, .inl (cO, 32, .inl l1))] s.heap.size = A at hD ⊢
  have hA : ∀ q : Nat, s.heap.size ≤ q → A q := fun q h => by rw [← hAe]; exact Or.inr h
  have hS : va_S A s.heap s.heap [] := va_S.rf
  have hP : va_P (dC, dI) vwCl [(jK, .inr (5, [.ref k0, .ref k1])), (k0, .inl (cK, 8, .inl l0)), (k1, .inl (cO, 32, .inl l1))] s.heap := hP
  have hl := lv_entry ([.ref jK, .int (nI (pj)), .int p1]) (n := 3) (Nat.le_of_ble_eq_true rfl)
  rw [lg_entry_eq]
  generalize (lg_sl ([.ref jK, .int (nI (pj)), .int p1]) ++ List.replicate (3 - (lg_sl ([.ref jK, .int (nI (pj)), .int p1])).length) Slot.unset).toArray = ls at hl ⊢
  have hl : lv_has ls 3 [(0, .ref jK), (1, .int (nI (pj))), (2, .int p1)] := hl
  refine kQ (fun Q hQ => ?_)
  refine lv_iload_n hx hb dX5_setLetter_0 rfl (lv_at hl 1 rfl) ?_
  refine lv_if_lt (tgt := 20) hx hb dX5_setLetter_1 kc_t_1_19 (fun c_1 => absurd c_1 (nI_pos (n := pj) (by omega))) (fun c_1 => ?_)
  refine lv_iload_n hx hb dX5_setLetter_4 rfl (lv_at hl 1 rfl) ?_
  refine lv_aload_n hx hb dX5_setLetter_5 rfl (lv_at hl 0 rfl) ?_
  refine va_get (D := (dC, dI)) (ci := 5) (v := .ref k0) (C := RX5) (T := TX5) (N := 2) hx hb hts (fun _ h => List.mem_cons_of_mem _ (List.mem_append_right _ h)) hown hK hP 0 rfl rfl 0 kc_l_0_2 (hts (.fieldLink RX5 9 "NotEnded$Reckoner" "letters" "[I") (List.mem_cons_of_mem _ (List.mem_append_left _ (List.mem_of_getElem? (i := 0) rfl)))) (fun _ h9 => h9) rfl dX5_setLetter_6 ?_
  refine va_alen hx hb hK hP 1 0 rfl rfl (v := 8) rfl dX5_setLetter_9 ?_
  refine lv_icmp_ge (tgt := 20) hx hb dX5_setLetter_10 kc_t_10_10 (fun c_2 => absurd c_2 (nI_ge (a := pj) (b := 8) (by omega) (by decide))) (fun c_2 => ?_)
  refine lv_aload_n hx hb dX5_setLetter_13 rfl (lv_at hl 0 rfl) ?_
  refine va_get (D := (dC, dI)) (ci := 5) (v := .ref k0) (C := RX5) (T := TX5) (N := 2) hx hb hts (fun _ h => List.mem_cons_of_mem _ (List.mem_append_right _ h)) hown hK hP 0 rfl rfl 0 kc_l_0_2 (hts (.fieldLink RX5 9 "NotEnded$Reckoner" "letters" "[I") (List.mem_cons_of_mem _ (List.mem_append_left _ (List.mem_of_getElem? (i := 0) rfl)))) (fun _ h9 => h9) rfl dX5_setLetter_14 ?_
  refine lv_iload_n hx hb dX5_setLetter_17 rfl (lv_at hl 1 rfl) ?_
  refine lv_iload_n hx hb dX5_setLetter_18 rfl (lv_at hl 2 rfl) ?_
  have bd_4 : pj < 8 := by omega
  refine va_iast hx hb hK hP hD hS 1 0 rfl rfl (vp_in_nI (n := pj) (N := 8) bd_4 kc_31_8) dX5_setLetter_19 (fun H locs hP hD hS => ?_)
  obtain ⟨f_3, ef_3⟩ : ∃ gg9 : Nat → Int32, gg9 = upd l0 (Int32.toNatClampNeg (nI (pj))) p1 := ⟨_, rfl⟩
  have hPD : kPD dC dI A [(jK, .inr (5, [.ref k0, .ref k1])), (k0, .inl (cK, 8, .inl f_3)), (k1, .inl (cO, 32, .inl l1))] H := by rw [ef_3]; exact ⟨hP, hD⟩
  have hP := hPD.1
  have hD := hPD.2
  have hP9 := hP
  have hD9 := hD
  have hK9 := hK
  rw [hQ]
  exact W.vret hx hb hr (fun t ht hW => ⟨⟨f_3, rfl, (by rw [ef_3, nI_clamp (by omega)]),  by rw [ht]; exact hP9, va_K.moved hW.alike hK9, hD9⟩, hS.F ht⟩) hS.2.2 dX5_setLetter_20
