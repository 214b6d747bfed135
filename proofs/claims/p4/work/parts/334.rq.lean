def w_s_look10x : List Cond := .code yX10_look cX10_look 1 (some .int) :: ([.fieldLink RX10 141 "NotEndedModel" "at" "I", .fieldLink RX10 144 "NotEndedModel" "ends" "I", .fieldLink RX10 23 "NotEndedModel" "text" "[B", .fieldLink RX10 147 "NotEndedModel" "begins" "I"] ++ (wsX100))
theorem gw_s_look10x : (w_s_look10x).all goodWord = true := kGc rfl (kGa (by decide +kernel) gw_wsX100)
set_option maxHeartbeats 4000000 in
set_option maxRecDepth 100000 in
theorem s_look10x (l : Launch) (dC : Nat → ClassId) (dI : Nat → Nat → Nat) (jM : Nat) (v0 : Value) (v1 : Value) (v2 : Value) (v3 : Value) (v6 : Value) (v7 : Value) (v8 : Value) (v12 : Value) (v13 : Value) (v14 : Value) (v15 : Value) (v18 : Value) (v19 : Value) (v20 : Value) (v21 : Value) (v22 : Value) (v23 : Value) (v24 : Value) (v25 : Value) (v26 : Value) (v27 : Value) (v28 : Value) (v29 : Value) (v30 : Value) (v31 : Value) (v32 : Value) (v33 : Value) (v34 : Value) (v35 : Value) (v36 : Value) (v37 : Value) (v38 : Value) (v39 : Value) (v40 : Value) (v41 : Value) (v42 : Value) (v43 : Value) (v44 : Value) (v45 : Value) (v46 : Value) (v47 : Value) (v48 : Value) (v49 : Value) (v50 : Value) (v51 : Value) (lt : Nat) (q6 : Nat) (q7 : Nat) (tx : Nat) (cT : ClassId) (nT : Nat) (gT : Nat → Int32) (be : Nat) (en : Nat) (a : Nat) (hbe : be + en ≤ nT) (hnT : nT ≤ 1680) (ha : a ≤ en) (bt : Nat → Nat) (hbr : ∀ j : Nat, j < en → gT (be + j) = kSg (bt j)) (hb8 : ∀ j : Nat, bt j < 256) (hb1 : ∀ j : Nat, j < en → 1 ≤ bt j) (hen9 : en ≤ 120) (sz : Nat) : Met l yX10_look w_s_look10x ({ frames := 1, cells := 0, slots := 0, locals := 60 }) (kW dC dI [.ref jM] [(jM, .inr (10, [v0, v1, v2, v3, .ref lt, .ref tx, v6, v7, v8, .int (nI (be)), .int (nI (en)), .int (nI (a)), v12, v13, v14, v15, .ref q6, .ref q7, v18, v19, v20, v21, v22, v23, v24, v25, v26, v27, v28, v29, v30, v31, v32, v33, v34, v35, v36, v37, v38, v39, v40, v41, v42, v43, v44, v45, v46, v47, v48, v49, v50, v51])), (tx, .inl (cT, nT, .inl gT))] [(cT, .byte)] kT sz) (va_Qi (fun (r : Int32) (u : Nat × Nat) => match u with | (a1, ch) => (r = kLr ch ∧ ch = kLk bt en a ∧ a1 = kSp bt en a ∧ ch < 256 ∧ a ≤ a1 ∧ a1 ≤ en ∧ (ch = 0 ∨ a1 < en) ∧ kAt bt en a1 = ch)) (fun (u : Nat × Nat) => match u with | (a1, ch) => fun t : State => kB dC dI [(jM, .inr (10, [v0, v1, v2, v3, .ref lt, .ref tx, v6, v7, v8, .int (nI (be)), .int (nI (en)), .int (nI (a1)), v12, v13, v14, v15, .ref q6, .ref q7, v18, v19, v20, v21, v22, v23, v24, v25, v26, v27, v28, v29, v30, v31, v32, v33, v34, v35, v36, v37, v38, v39, v40, v41, v42, v43, v44, v45, v46, v47, v48, v49, v50, v51])), (tx, .inl (cT, nT, .inl gT))] [(cT, .byte)] (va_A [(jM, .inr (10, [v0, v1, v2, v3, .ref lt, .ref tx, v6, v7, v8, .int (nI (be)), .int (nI (en)), .int (nI (a)), v12, v13, v14, v15, .ref q6, .ref q7, v18, v19, v20, v21, v22, v23, v24, v25, v26, v27, v28, v29, v30, v31, v32, v33, v34, v35, v36, v37, v38, v39, v40, v41, v42, v43, v44, v45, v46, v47, v48, v49, v50, v51])), (tx, .inl (cT, nT, .inl gT))] sz) t) (va_A [(jM, .inr (10, [v0, v1, v2, v3, .ref lt, .ref tx, v6, v7, v8, .int (nI (be)), .int (nI (en)), .int (nI (a)), v12, v13, v14, v15, .ref q6, .ref q7, v18, v19, v20, v21, v22, v23, v24, v25, v26, v27, v28, v29, v30, v31, v32, v33, v34, v35, v36, v37, v38, v39, v40, v41, v42, v43, v44, v45, v46, v47, v48, v49, v50, v51])), (tx, .inl (cT, nT, .inl gT))] sz)) 0 0 (va_A [(jM, .inr (10, [v0, v1, v2, v3, .ref lt, .ref tx, v6, v7, v8, .int (nI (be)), .int (nI (en)), .int (nI (a)), v12, v13, v14, v15, .ref q6, .ref q7, v18, v19, v20, v21, v22, v23, v24, v25, v26, v27, v28, v29, v30, v31, v32, v33, v34, v35, v36, v37, v38, v39, v40, v41, v42, v43, v44, v45, v46, v47, v48, v49, v50, v51])), (tx, .inl (cT, nT, .inl gT))] sz) := by
  refine Met.ofW (cc := cX10_look) (maxL := 1) (ret := (some .int)) (by decide) rfl ?_
  intro p e s m args below meth c s₁ B hml hv
  obtain ⟨rfl, hsz, hP, hK, hD0, hX⟩ := hv
  have hx := B.exec
  have hb := B.bytes
  have hr := B.returns
  have hts := atoms_spec (ws := w_s_look10x) B.pre
  have hown : s.vm.findClass RX10 = some m.cls := findClass_of_methodNamed B.named
  have hlocks := B.notSynchronized
  subst hsz
  have hD := hD0.self (sz := s.heap.size)
  generalize hAe : va_A [(jM, .inr (10, [v0, v1, v2, v3, .ref lt, .ref tx, v6, v7, v8, .int (nI (be)), .int (nI (en)), .int (nI (a)), v12, v13, v14, v15, .ref q6, .ref q7, v18, v19, v20, v21, v22, v23, v24, v25, v26, v27, v28, v29, v30, v31, v32, v33, v34, v35, v36, v37, v38, v39, v40, v41, v42, v43, v44, v45, v46, v47, v48, v49, v50, v51])), (tx, .inl (cT, nT, .inl gT))] s.heap.size = A at hD ⊢
  have hA : ∀ q : Nat, s.heap.size ≤ q → A q := fun q h => by rw [← hAe]; exact Or.inr h
  have hS : va_S A s.heap s.heap [] := va_S.rf
  have hP : va_P (dC, dI) vwCl [(jM, .inr (10, [v0, v1, v2, v3, .ref lt, .ref tx, v6, v7, v8, .int (nI (be)), .int (nI (en)), .int (nI (a)), v12, v13, v14, v15, .ref q6, .ref q7, v18, v19, v20, v21, v22, v23, v24, v25, v26, v27, v28, v29, v30, v31, v32, v33, v34, v35, v36, v37, v38, v39, v40, v41, v42, v43, v44, v45, v46, v47, v48, v49, v50, v51])), (tx, .inl (cT, nT, .inl gT))] s.heap := hP
  have hl := lv_entry ([.ref jM]) (n := 1) (Nat.le_of_ble_eq_true rfl)
  rw [lg_entry_eq]
  generalize (lg_sl ([.ref jM]) ++ List.replicate (1 - (lg_sl ([.ref jM])).length) Slot.unset).toArray = ls at hl ⊢
  have hl : lv_has ls 1 [(0, .ref jM)] := hl
  refine kQ (fun Q hQ => ?_)
  have lp_k_1 : ∀ (n9 : Nat) (i : Nat) (ivk_1_0 : (a ≤ i ∧ i ≤ en)) (ivk_1_1 : kSp bt en i = kSp bt en a) (H : Heap) (locs : List Loc) (_ : va_P (dC, dI) vwCl [(jM, .inr (10, [v0, v1, v2, v3, .ref lt, .ref tx, v6, v7, v8, .int (nI (be)), .int (nI (en)), .int (nI (i)), v12, v13, v14, v15, .ref q6, .ref q7, v18, v19, v20, v21, v22, v23, v24, v25, v26, v27, v28, v29, v30, v31, v32, v33, v34, v35, v36, v37, v38, v39, v40, v41, v42, v43, v44, v45, v46, v47, v48, v49, v50, v51])), (tx, .inl (cT, nT, .inl gT))] H) (_ : va_D A [(jM, .inr (10, [v0, v1, v2, v3, .ref lt, .ref tx, v6, v7, v8, .int (nI (be)), .int (nI (en)), .int (nI (i)), v12, v13, v14, v15, .ref q6, .ref q7, v18, v19, v20, v21, v22, v23, v24, v25, v26, v27, v28, v29, v30, v31, v32, v33, v34, v35, v36, v37, v38, v39, v40, v41, v42, v43, v44, v45, v46, v47, v48, v49, v50, v51])), (tx, .inl (cT, nT, .inl gT))]) (_ : va_S A s.heap H locs) (ls : Array Slot) (_ : lv_has ls 1 [(0, .ref jM)]) (_ : en - i < n9), W p l e (headSpec w_s_look10x ({ frames := 1, cells := 0, slots := 0, locals := 60 })).room s m (#[.ref jM] : Array Value) below meth c H locs 0 0 Q (F0 m 0 ls []) := by
    intro n9
    induction n9 with
    | zero => intro i ivk_1_0 ivk_1_1 H locs hP hD hS ls hl hm9; exact absurd hm9 (Nat.not_lt_zero _)
    | succ n9 ih_k_1 =>
      intro i ivk_1_0 ivk_1_1 H locs hP hD hS ls hl hm9
      refine lv_aload_n hx hb dX10_look_0 rfl (lv_at hl 0 rfl) ?_
      refine va_get (D := (dC, dI)) (ci := 10) (v := .int (nI (i))) (C := RX10) (T := TX10) (N := 52) hx hb hts (fun _ h => List.mem_cons_of_mem _ (List.mem_append_right _ h)) hown hK hP 0 rfl rfl 11 kc_l_11_52 (hts (.fieldLink RX10 141 "NotEndedModel" "at" "I") (List.mem_cons_of_mem _ (List.mem_append_left _ (List.mem_of_getElem? (i := 0) rfl)))) (fun _ h9 => h9) rfl dX10_look_1 ?_
      refine lv_aload_n hx hb dX10_look_4 rfl (lv_at hl 0 rfl) ?_
      refine va_get (D := (dC, dI)) (ci := 10) (v := .int (nI (en))) (C := RX10) (T := TX10) (N := 52) hx hb hts (fun _ h => List.mem_cons_of_mem _ (List.mem_append_right _ h)) hown hK hP 0 rfl rfl 10 kc_l_10_52 (hts (.fieldLink RX10 144 "NotEndedModel" "ends" "I") (List.mem_cons_of_mem _ (List.mem_append_left _ (List.mem_of_getElem? (i := 1) rfl)))) (fun _ h9 => h9) rfl dX10_look_5 ?_
      refine lv_icmp_ge (tgt := 43) hx hb dX10_look_8 kc_t_8_35 (fun c_2 => ?_) (fun c_2 => ?_)
      · have bd_4 : en < 2147483648 := by omega
        have bd_5 : i < 2147483648 := by omega
        have hn_3 := kle (a := en) (b := i) bd_4 bd_5 c_2
        refine lv_aload_n hx hb dX10_look_43 rfl (lv_at hl 0 rfl) ?_
        refine va_get (D := (dC, dI)) (ci := 10) (v := .int (nI (i))) (C := RX10) (T := TX10) (N := 52) hx hb hts (fun _ h => List.mem_cons_of_mem _ (List.mem_append_right _ h)) hown hK hP 0 rfl rfl 11 kc_l_11_52 (hts (.fieldLink RX10 141 "NotEndedModel" "at" "I") (List.mem_cons_of_mem _ (List.mem_append_left _ (List.mem_of_getElem? (i := 0) rfl)))) (fun _ h9 => h9) rfl dX10_look_44 ?_
        refine lv_aload_n hx hb dX10_look_47 rfl (lv_at hl 0 rfl) ?_
        refine va_get (D := (dC, dI)) (ci := 10) (v := .int (nI (en))) (C := RX10) (T := TX10) (N := 52) hx hb hts (fun _ h => List.mem_cons_of_mem _ (List.mem_append_right _ h)) hown hK hP 0 rfl rfl 10 kc_l_10_52 (hts (.fieldLink RX10 144 "NotEndedModel" "ends" "I") (List.mem_cons_of_mem _ (List.mem_append_left _ (List.mem_of_getElem? (i := 1) rfl)))) (fun _ h9 => h9) rfl dX10_look_48 ?_
        refine lv_icmp_ge (tgt := 75) hx hb dX10_look_51 kc_t_51_24 (fun c_6 => ?_) (fun c_6 => ?_)
        · have hn_7 := kle (a := en) (b := i) bd_4 bd_5 c_6
          refine lv_iconst (v := (-1)) hx hb dX10_look_75 kc_i_m1 ?_
          have hP9 := hP
          have hD9 := hD
          have hK9 := hK
          rw [hQ]
          exact W.iret (v := (-1)) hx hb hr (fun t ht hW => ⟨⟨(-1), (i, kAt bt en i), rfl, ⟨(by rw [kAt_ge (by omega)]; rfl), (by have h9 : i = kSp bt en a := (by rw [← ivk_1_1]; exact (kSp_id (by rw [kAt_ge (by omega)]; decide)).symm); unfold kLk; rw [← h9]), (by rw [← ivk_1_1]; exact (kSp_id (by rw [kAt_ge (by omega)]; decide)).symm), kAt_b hb8 _ _, by omega, by omega, by by_cases z : kAt bt en i = 0; exact Or.inl z; exact Or.inr (kAt_lt z), rfl⟩,  by rw [ht]; exact hP9, va_K.moved hW.alike hK9, hD9⟩, hS.F ht⟩) hS.2.2 dX10_look_76
        · have hn_8 := knle (a := en) (b := i) bd_4 bd_5 c_6
          refine lv_aload_n hx hb dX10_look_54 rfl (lv_at hl 0 rfl) ?_
          refine va_get (D := (dC, dI)) (ci := 10) (v := .ref tx) (C := RX10) (T := TX10) (N := 52) hx hb hts (fun _ h => List.mem_cons_of_mem _ (List.mem_append_right _ h)) hown hK hP 0 rfl rfl 5 kc_l_5_52 (hts (.fieldLink RX10 23 "NotEndedModel" "text" "[B") (List.mem_cons_of_mem _ (List.mem_append_left _ (List.mem_of_getElem? (i := 2) rfl)))) (fun _ h9 => h9) rfl dX10_look_55 ?_
          refine lv_aload_n hx hb dX10_look_58 rfl (lv_at hl 0 rfl) ?_
          refine va_get (D := (dC, dI)) (ci := 10) (v := .int (nI (be))) (C := RX10) (T := TX10) (N := 52) hx hb hts (fun _ h => List.mem_cons_of_mem _ (List.mem_append_right _ h)) hown hK hP 0 rfl rfl 9 kc_l_9_52 (hts (.fieldLink RX10 147 "NotEndedModel" "begins" "I") (List.mem_cons_of_mem _ (List.mem_append_left _ (List.mem_of_getElem? (i := 3) rfl)))) (fun _ h9 => h9) rfl dX10_look_59 ?_
          refine lv_aload_n hx hb dX10_look_62 rfl (lv_at hl 0 rfl) ?_
          refine va_get (D := (dC, dI)) (ci := 10) (v := .int (nI (i))) (C := RX10) (T := TX10) (N := 52) hx hb hts (fun _ h => List.mem_cons_of_mem _ (List.mem_append_right _ h)) hown hK hP 0 rfl rfl 11 kc_l_11_52 (hts (.fieldLink RX10 141 "NotEndedModel" "at" "I") (List.mem_cons_of_mem _ (List.mem_append_left _ (List.mem_of_getElem? (i := 0) rfl)))) (fun _ h9 => h9) rfl dX10_look_63 ?_
          refine lv_iadd hx hb dX10_look_66 ?_
          refine lv_topi (fun y_9 ey_9 => ?_)
          obtain rfl : y_9 = nI (be + i) := ey_9.trans (nI_add (be) (i))
          have bd_10 : be + i < nT := by omega
          have bd_11 : nT < 2147483648 := by omega
          refine va_bald hx hb hK hP 1 0 rfl rfl (vp_in_nI (n := be + i) (N := nT) bd_10 bd_11) dX10_look_67 ?_
          refine lv_topi (fun x_12 ex_12 => ?_)
          refine lv_sipush (v := 255) hx hb dX10_look_68 kc_s_255 ?_
          refine lv_iand hx hb dX10_look_71 ?_
          refine lv_topi (fun x_13 ex_13 => ?_)
          refine lv_goto (tgt := 76) hx hb dX10_look_72 kc_t_72_4 ?_
          have hP9 := hP
          have hD9 := hD
          have hK9 := hK
          rw [hQ]
          exact W.iret (v := x_13) hx hb hr (fun t ht hW => ⟨⟨x_13, (i, kAt bt en i), rfl, (by exfalso; omega),  by rw [ht]; exact hP9, va_K.moved hW.alike hK9, hD9⟩, hS.F ht⟩) hS.2.2 dX10_look_76
      · have bd_15 : en < 2147483648 := by omega
        have bd_16 : i < 2147483648 := by omega
        have hn_14 := knle (a := en) (b := i) bd_15 bd_16 c_2
        refine lv_aload_n hx hb dX10_look_11 rfl (lv_at hl 0 rfl) ?_
        refine va_get (D := (dC, dI)) (ci := 10) (v := .ref tx) (C := RX10) (T := TX10) (N := 52) hx hb hts (fun _ h => List.mem_cons_of_mem _ (List.mem_append_right _ h)) hown hK hP 0 rfl rfl 5 kc_l_5_52 (hts (.fieldLink RX10 23 "NotEndedModel" "text" "[B") (List.mem_cons_of_mem _ (List.mem_append_left _ (List.mem_of_getElem? (i := 2) rfl)))) (fun _ h9 => h9) rfl dX10_look_12 ?_
        refine lv_aload_n hx hb dX10_look_15 rfl (lv_at hl 0 rfl) ?_
        refine va_get (D := (dC, dI)) (ci := 10) (v := .int (nI (be))) (C := RX10) (T := TX10) (N := 52) hx hb hts (fun _ h => List.mem_cons_of_mem _ (List.mem_append_right _ h)) hown hK hP 0 rfl rfl 9 kc_l_9_52 (hts (.fieldLink RX10 147 "NotEndedModel" "begins" "I") (List.mem_cons_of_mem _ (List.mem_append_left _ (List.mem_of_getElem? (i := 3) rfl)))) (fun _ h9 => h9) rfl dX10_look_16 ?_
        refine lv_aload_n hx hb dX10_look_19 rfl (lv_at hl 0 rfl) ?_
        refine va_get (D := (dC, dI)) (ci := 10) (v := .int (nI (i))) (C := RX10) (T := TX10) (N := 52) hx hb hts (fun _ h => List.mem_cons_of_mem _ (List.mem_append_right _ h)) hown hK hP 0 rfl rfl 11 kc_l_11_52 (hts (.fieldLink RX10 141 "NotEndedModel" "at" "I") (List.mem_cons_of_mem _ (List.mem_append_left _ (List.mem_of_getElem? (i := 0) rfl)))) (fun _ h9 => h9) rfl dX10_look_20 ?_
        refine lv_iadd hx hb dX10_look_23 ?_
        refine lv_topi (fun y_17 ey_17 => ?_)
        obtain rfl : y_17 = nI (be + i) := ey_17.trans (nI_add (be) (i))
        have bd_18 : be + i < nT := by omega
        have bd_19 : nT < 2147483648 := by omega
        refine va_bald hx hb hK hP 1 0 rfl rfl (vp_in_nI (n := be + i) (N := nT) bd_18 bd_19) dX10_look_24 ?_
        refine lv_topi (fun x_20 ex_20 => ?_)
        refine lv_bipush (v := 32) hx hb dX10_look_25 kc_b_32 ?_
        refine lv_icmp_ne (tgt := 43) hx hb dX10_look_27 kc_t_27_16 (fun c_21 => ?_) (fun c_21 => ?_)
        · refine lv_aload_n hx hb dX10_look_43 rfl (lv_at hl 0 rfl) ?_
          refine va_get (D := (dC, dI)) (ci := 10) (v := .int (nI (i))) (C := RX10) (T := TX10) (N := 52) hx hb hts (fun _ h => List.mem_cons_of_mem _ (List.mem_append_right _ h)) hown hK hP 0 rfl rfl 11 kc_l_11_52 (hts (.fieldLink RX10 141 "NotEndedModel" "at" "I") (List.mem_cons_of_mem _ (List.mem_append_left _ (List.mem_of_getElem? (i := 0) rfl)))) (fun _ h9 => h9) rfl dX10_look_44 ?_
          refine lv_aload_n hx hb dX10_look_47 rfl (lv_at hl 0 rfl) ?_
          refine va_get (D := (dC, dI)) (ci := 10) (v := .int (nI (en))) (C := RX10) (T := TX10) (N := 52) hx hb hts (fun _ h => List.mem_cons_of_mem _ (List.mem_append_right _ h)) hown hK hP 0 rfl rfl 10 kc_l_10_52 (hts (.fieldLink RX10 144 "NotEndedModel" "ends" "I") (List.mem_cons_of_mem _ (List.mem_append_left _ (List.mem_of_getElem? (i := 1) rfl)))) (fun _ h9 => h9) rfl dX10_look_48 ?_
          refine lv_icmp_ge (tgt := 75) hx hb dX10_look_51 kc_t_51_24 (fun c_22 => ?_) (fun c_22 => ?_)
          · have hn_23 := kle (a := en) (b := i) bd_15 bd_16 c_22
            refine lv_iconst (v := (-1)) hx hb dX10_look_75 kc_i_m1 ?_
            have hP9 := hP
            have hD9 := hD
            have hK9 := hK
            rw [hQ]
            exact W.iret (v := (-1)) hx hb hr (fun t ht hW => ⟨⟨(-1), (i, kAt bt en i), rfl, ⟨(by rw [kAt_ge (by omega)]; rfl), (by have h9 : i = kSp bt en a := (by rw [← ivk_1_1]; exact (kSp_id (by rw [kAt_ge (by omega)]; decide)).symm); unfold kLk; rw [← h9]), (by rw [← ivk_1_1]; exact (kSp_id (by rw [kAt_ge (by omega)]; decide)).symm), kAt_b hb8 _ _, by omega, by omega, by by_cases z : kAt bt en i = 0; exact Or.inl z; exact Or.inr (kAt_lt z), rfl⟩,  by rw [ht]; exact hP9, va_K.moved hW.alike hK9, hD9⟩, hS.F ht⟩) hS.2.2 dX10_look_76
          · have hn_24 := knle (a := en) (b := i) bd_15 bd_16 c_22
            refine lv_aload_n hx hb dX10_look_54 rfl (lv_at hl 0 rfl) ?_
            refine va_get (D := (dC, dI)) (ci := 10) (v := .ref tx) (C := RX10) (T := TX10) (N := 52) hx hb hts (fun _ h => List.mem_cons_of_mem _ (List.mem_append_right _ h)) hown hK hP 0 rfl rfl 5 kc_l_5_52 (hts (.fieldLink RX10 23 "NotEndedModel" "text" "[B") (List.mem_cons_of_mem _ (List.mem_append_left _ (List.mem_of_getElem? (i := 2) rfl)))) (fun _ h9 => h9) rfl dX10_look_55 ?_
            refine lv_aload_n hx hb dX10_look_58 rfl (lv_at hl 0 rfl) ?_
            refine va_get (D := (dC, dI)) (ci := 10) (v := .int (nI (be))) (C := RX10) (T := TX10) (N := 52) hx hb hts (fun _ h => List.mem_cons_of_mem _ (List.mem_append_right _ h)) hown hK hP 0 rfl rfl 9 kc_l_9_52 (hts (.fieldLink RX10 147 "NotEndedModel" "begins" "I") (List.mem_cons_of_mem _ (List.mem_append_left _ (List.mem_of_getElem? (i := 3) rfl)))) (fun _ h9 => h9) rfl dX10_look_59 ?_
            refine lv_aload_n hx hb dX10_look_62 rfl (lv_at hl 0 rfl) ?_
            refine va_get (D := (dC, dI)) (ci := 10) (v := .int (nI (i))) (C := RX10) (T := TX10) (N := 52) hx hb hts (fun _ h => List.mem_cons_of_mem _ (List.mem_append_right _ h)) hown hK hP 0 rfl rfl 11 kc_l_11_52 (hts (.fieldLink RX10 141 "NotEndedModel" "at" "I") (List.mem_cons_of_mem _ (List.mem_append_left _ (List.mem_of_getElem? (i := 0) rfl)))) (fun _ h9 => h9) rfl dX10_look_63 ?_
            refine lv_iadd hx hb dX10_look_66 ?_
            refine lv_topi (fun y_25 ey_25 => ?_)
            obtain rfl : y_25 = nI (be + i) := ey_25.trans (nI_add (be) (i))
            refine va_bald hx hb hK hP 1 0 rfl rfl (vp_in_nI (n := be + i) (N := nT) bd_18 bd_19) dX10_look_67 ?_
            refine lv_topi (fun x_26 ex_26 => ?_)
            refine lv_sipush (v := 255) hx hb dX10_look_68 kc_s_255 ?_
            refine lv_iand hx hb dX10_look_71 ?_
            refine lv_topi (fun x_27 ex_27 => ?_)
            refine lv_goto (tgt := 76) hx hb dX10_look_72 kc_t_72_4 ?_
            have hP9 := hP
            have hD9 := hD
            have hK9 := hK
            rw [hQ]
            exact W.iret (v := x_27) hx hb hr (fun t ht hW => ⟨⟨x_27, (i, kAt bt en i), rfl, ⟨(by rw [kAt_in (by omega), kLr_p (hb1 i (by omega)), ex_27, ex_26, nI_clamp (n := be + i) (by omega), hbr i (by omega)]; exact kSgA (hb8 i)), (by have h9 : i = kSp bt en a := (by rw [← ivk_1_1]; exact (kSp_id (fun z9 => c_21 (by rw [kAt_in (by omega)] at z9; rw [ex_20, nI_clamp (n := be + i) (by omega), hbr i (by omega)]; exact (kSg32 (hb8 i)).mpr z9))).symm); unfold kLk; rw [← h9]), (by rw [← ivk_1_1]; exact (kSp_id (fun z9 => c_21 (by rw [kAt_in (by omega)] at z9; rw [ex_20, nI_clamp (n := be + i) (by omega), hbr i (by omega)]; exact (kSg32 (hb8 i)).mpr z9))).symm), kAt_b hb8 _ _, by omega, by omega, by by_cases z : kAt bt en i = 0; exact Or.inl z; exact Or.inr (kAt_lt z), rfl⟩,  by rw [ht]; exact hP9, va_K.moved hW.alike hK9, hD9⟩, hS.F ht⟩) hS.2.2 dX10_look_76
        · refine lv_aload_n hx hb dX10_look_30 rfl (lv_at hl 0 rfl) ?_
          refine lv_dup hx hb dX10_look_31 rfl ?_
          refine va_get (D := (dC, dI)) (ci := 10) (v := .int (nI (i))) (C := RX10) (T := TX10) (N := 52) hx hb hts (fun _ h => List.mem_cons_of_mem _ (List.mem_append_right _ h)) hown hK hP 0 rfl rfl 11 kc_l_11_52 (hts (.fieldLink RX10 141 "NotEndedModel" "at" "I") (List.mem_cons_of_mem _ (List.mem_append_left _ (List.mem_of_getElem? (i := 0) rfl)))) (fun _ h9 => h9) rfl dX10_look_32 ?_
          refine lv_iconst (v := 1) hx hb dX10_look_35 kc_i_1 ?_
          refine lv_iadd hx hb dX10_look_36 ?_
          refine lv_topi (fun y_28 ey_28 => ?_)
          obtain rfl : y_28 = nI (i + 1) := ey_28.trans (nI_add (i) (1))
          refine va_put (D := (dC, dI)) (ci := 10) (v := .int (nI (i + 1))) (ty := tyX10 11) (C := RX10) (T := TX10) (N := 52) hx hb hts (fun _ h => List.mem_cons_of_mem _ (List.mem_append_right _ h)) tyX10 tyX10_ok nmX10 hown hK hP hD hS 0 rfl rfl 11 kc_l_11_52 (hts (.fieldLink RX10 141 "NotEndedModel" "at" "I") (List.mem_cons_of_mem _ (List.mem_append_left _ (List.mem_of_getElem? (i := 0) rfl)))) (fun _ h9 => h9) rfl (tyX10_ok 11 kc_l_11_52) rfl rfl (Nat.le_of_ble_eq_true rfl) dX10_look_37 (fun H locs hP hD hS => ?_)
          have hPD : kPD dC dI A [(jM, .inr (10, [v0, v1, v2, v3, .ref lt, .ref tx, v6, v7, v8, .int (nI (be)), .int (nI (en)), .int (nI (i + 1)), v12, v13, v14, v15, .ref q6, .ref q7, v18, v19, v20, v21, v22, v23, v24, v25, v26, v27, v28, v29, v30, v31, v32, v33, v34, v35, v36, v37, v38, v39, v40, v41, v42, v43, v44, v45, v46, v47, v48, v49, v50, v51])), (tx, .inl (cT, nT, .inl gT))] H := ⟨hP, hD⟩
          obtain ⟨hP, hD⟩ := hPD
          refine lv_goto (tgt := 0) hx hb dX10_look_40 kc_t_40_m40 ?_
          exact ih_k_1 (i + 1) (by omega) (by rw [← ivk_1_1]; exact kSp_step (by omega) (by rw [kAt_in (by omega)]; exact (kSg32 (hb8 i)).mp (by rw [← hbr i (by omega), ← nI_clamp (n := be + i) (by omega), ← ex_20]; exact c_21))) _ _ hP hD hS ls (lv_sub hl [0] rfl) (by omega)
  exact lp_k_1 (en - a + 1) a (by omega) rfl _ _ hP hD hS ls (lv_sub hl [0] rfl) (by omega)

def w_s_fails10x : List Cond := .code yX10_fails cX10_fails 1 (some .boolean) :: ([.fieldLink RX10 150 "NotEndedModel" "fault" "I", .fieldLink RX10 141 "NotEndedModel" "at" "I"] ++ (wsX100))
theorem gw_s_fails10x : (w_s_fails10x).all goodWord = true := kGc rfl (kGa (by decide +kernel) gw_wsX100)
set_option maxHeartbeats 4000000 in
set_option maxRecDepth 100000 in
theorem s_fails10x (l : Launch) (dC : Nat → ClassId) (dI : Nat → Nat → Nat) (jM : Nat) (v0 : Value) (v1 : Value) (v2 : Value) (v3 : Value) (v6 : Value) (v7 : Value) (v8 : Value) (v13 : Value) (v14 : Value) (v15 : Value) (v18 : Value) (v19 : Value) (v20 : Value) (v21 : Value) (v22 : Value) (v23 : Value) (v24 : Value) (v25 : Value) (v26 : Value) (v27 : Value) (v28 : Value) (v29 : Value) (v30 : Value) (v31 : Value) (v32 : Value) (v33 : Value) (v34 : Value) (v35 : Value) (v36 : Value) (v37 : Value) (v38 : Value) (v39 : Value) (v40 : Value) (v41 : Value) (v42 : Value) (v43 : Value) (v44 : Value) (v45 : Value) (v46 : Value) (v47 : Value) (v48 : Value) (v49 : Value) (v50 : Value) (v51 : Value) (lt : Nat) (q6 : Nat) (q7 : Nat) (tx : Nat) (be : Nat) (en : Nat) (a : Nat) (ha : a ≤ en) (hen : en ≤ 1680) (sz : Nat) : Met l yX10_fails w_s_fails10x ({ frames := 1, cells := 0, slots := 0, locals := 60 }) (kW dC dI [.ref jM] [(jM, .inr (10, [v0, v1, v2, v3, .ref lt, .ref tx, v6, v7, v8, .int (nI (be)), .int (nI (en)), .int (nI (a)), .int (-1), v13, v14, v15, .ref q6, .ref q7, v18, v19, v20, v21, v22, v23, v24, v25, v26, v27, v28, v29, v30, v31, v32, v33, v34, v35, v36, v37, v38, v39, v40, v41, v42, v43, v44, v45, v46, v47, v48, v49, v50, v51]))] [] kT sz) (va_Qi (fun (r : Int32) (_ : Unit) => r = 0) (fun (_ : Unit) => fun t : State => kB dC dI [(jM, .inr (10, [v0, v1, v2, v3, .ref lt, .ref tx, v6, v7, v8, .int (nI (be)), .int (nI (en)), .int (nI (a)), .int (nI (a)), v13, v14, v15, .ref q6, .ref q7, v18, v19, v20, v21, v22, v23, v24, v25, v26, v27, v28, v29, v30, v31, v32, v33, v34, v35, v36, v37, v38, v39, v40, v41, v42, v43, v44, v45, v46, v47, v48, v49, v50, v51]))] [] (va_A [(jM, .inr (10, [v0, v1, v2, v3, .ref lt, .ref tx, v6, v7, v8, .int (nI (be)), .int (nI (en)), .int (nI (a)), .int (-1), v13, v14, v15, .ref q6, .ref q7, v18, v19, v20, v21, v22, v23, v24, v25, v26, v27, v28, v29, v30, v31, v32, v33, v34, v35, v36, v37, v38, v39, v40, v41, v42, v43, v44, v45, v46, v47, v48, v49, v50, v51]))] sz) t) (va_A [(jM, .inr (10, [v0, v1, v2, v3, .ref lt, .ref tx, v6, v7, v8, .int (nI (be)), .int (nI (en)), .int (nI (a)), .int (-1), v13, v14, v15, .ref q6, .ref q7, v18, v19, v20, v21, v22, v23, v24, v25, v26, v27, v28, v29, v30, v31, v32, v33, v34, v35, v36, v37, v38, v39, v40, v41, v42, v43, v44, v45, v46, v47, v48, v49, v50, v51]))] sz)) 0 0 (va_A [(jM, .inr (10, [v0, v1, v2, v3, .ref lt, .ref tx, v6, v7, v8, .int (nI (be)), .int (nI (en)), .int (nI (a)), .int (-1), v13, v14, v15, .ref q6, .ref q7, v18, v19, v20, v21, v22, v23, v24, v25, v26, v27, v28, v29, v30, v31, v32, v33, v34, v35, v36, v37, v38, v39, v40, v41, v42, v43, v44, v45, v46, v47, v48, v49, v50, v51]))] sz) := by
  refine Met.ofW (cc := cX10_fails) (maxL := 1) (ret := (some .boolean)) (by decide) rfl ?_
  intro p e s m args below meth c s₁ B hml hv
  obtain ⟨rfl, hsz, hP, hK, hD0, hX⟩ := hv
  have hx := B.exec
  have hb := B.bytes
  have hr := B.returns
  have hts := atoms_spec (ws := w_s_fails10x) B.pre
  have hown : s.vm.findClass RX10 = some m.cls := findClass_of_methodNamed B.named
  have hlocks := B.notSynchronized
  subst hsz
  have hD := hD0.self (sz := s.heap.size)
  generalize hAe : va_A [(jM, .inr (10, [v0, v1, v2, v3, .ref lt, .ref tx, v6, v7, v8, .int (nI (be)), .int (nI (en)), .int (nI (a)), .int (-1), v13, v14, v15, .ref q6, .ref q7, v18, v19, v20, v21, v22, v23, v24, v25, v26, v27, v28, v29, v30, v31, v32, v33, v34, v35, v36, v37, v38, v39, v40, v41, v42, v43, v44, v45, v46, v47, v48, v49, v50, v51]))] s.heap.size = A at hD ⊢
  have hA : ∀ q : Nat, s.heap.size ≤ q → A q := fun q h => by rw [← hAe]; exact Or.inr h
  have hS : va_S A s.heap s.heap [] := va_S.rf
  have hP : va_P (dC, dI) vwCl [(jM, .inr (10, [v0, v1, v2, v3, .ref lt, .ref tx, v6, v7, v8, .int (nI (be)), .int (nI (en)), .int (nI (a)), .int (-1), v13, v14, v15, .ref q6, .ref q7, v18, v19, v20, v21, v22, v23, v24, v25, v26, v27, v28, v29, v30, v31, v32, v33, v34, v35, v36, v37, v38, v39, v40, v41, v42, v43, v44, v45, v46, v47, v48, v49, v50, v51]))] s.heap := hP
  have hl := lv_entry ([.ref jM]) (n := 1) (Nat.le_of_ble_eq_true rfl)
  rw [lg_entry_eq]
  generalize (lg_sl ([.ref jM]) ++ List.replicate (1 - (lg_sl ([.ref jM])).length) Slot.unset).toArray = ls at hl ⊢
  have hl : lv_has ls 1 [(0, .ref jM)] := hl
  refine kQ (fun Q hQ => ?_)
  refine lv_aload_n hx hb dX10_fails_0 rfl (lv_at hl 0 rfl) ?_
  refine va_get (D := (dC, dI)) (ci := 10) (v := .int (-1)) (C := RX10) (T := TX10) (N := 52) hx hb hts (fun _ h => List.mem_cons_of_mem _ (List.mem_append_right _ h)) hown hK hP 0 rfl rfl 12 kc_l_12_52 (hts (.fieldLink RX10 150 "NotEndedModel" "fault" "I") (List.mem_cons_of_mem _ (List.mem_append_left _ (List.mem_of_getElem? (i := 0) rfl)))) (fun _ h9 => h9) rfl dX10_fails_1 ?_
  refine lv_iconst (v := (-1)) hx hb dX10_fails_4 kc_i_m1 ?_
  refine lv_icmp_ne (tgt := 16) hx hb dX10_fails_5 kc_t_5_11 (fun c_1 => absurd (by decide) c_1) (fun c_1 => ?_)
  refine lv_aload_n hx hb dX10_fails_8 rfl (lv_at hl 0 rfl) ?_
  refine lv_aload_n hx hb dX10_fails_9 rfl (lv_at hl 0 rfl) ?_
  refine va_get (D := (dC, dI)) (ci := 10) (v := .int (nI (a))) (C := RX10) (T := TX10) (N := 52) hx hb hts (fun _ h => List.mem_cons_of_mem _ (List.mem_append_right _ h)) hown hK hP 0 rfl rfl 11 kc_l_11_52 (hts (.fieldLink RX10 141 "NotEndedModel" "at" "I") (List.mem_cons_of_mem _ (List.mem_append_left _ (List.mem_of_getElem? (i := 1) rfl)))) (fun _ h9 => h9) rfl dX10_fails_10 ?_
  refine va_put (D := (dC, dI)) (ci := 10) (v := .int (nI (a))) (ty := tyX10 12) (C := RX10) (T := TX10) (N := 52) hx hb hts (fun _ h => List.mem_cons_of_mem _ (List.mem_append_right _ h)) tyX10 tyX10_ok nmX10 hown hK hP hD hS 0 rfl rfl 12 kc_l_12_52 (hts (.fieldLink RX10 150 "NotEndedModel" "fault" "I") (List.mem_cons_of_mem _ (List.mem_append_left _ (List.mem_of_getElem? (i := 0) rfl)))) (fun _ h9 => h9) rfl (tyX10_ok 12 kc_l_12_52) rfl rfl (Nat.le_of_ble_eq_true rfl) dX10_fails_13 (fun H locs hP hD hS => ?_)
  have hPD : kPD dC dI A [(jM, .inr (10, [v0, v1, v2, v3, .ref lt, .ref tx, v6, v7, v8, .int (nI (be)), .int (nI (en)), .int (nI (a)), .int (nI (a)), v13, v14, v15, .ref q6, .ref q7, v18, v19, v20, v21, v22, v23, v24, v25, v26, v27, v28, v29, v30, v31, v32, v33, v34, v35, v36, v37, v38, v39, v40, v41, v42, v43, v44, v45, v46, v47, v48, v49, v50, v51]))] H := ⟨hP, hD⟩
  obtain ⟨hP, hD⟩ := hPD
  refine lv_iconst (v := 0) hx hb dX10_fails_16 kc_i_0 ?_
  have hP9 := hP
  have hD9 := hD
  have hK9 := hK
  rw [hQ]
  exact W.zret (v := 0) hx hb hr rfl (fun t ht hW => ⟨⟨0, (), rfl, rfl,  by rw [ht]; exact hP9, va_K.moved hW.alike hK9, hD9⟩, hS.F ht⟩) hS.2.2 dX10_fails_17

def w_s_goesIn10x_6 : List Cond := .code yX10_goesIn cX10_goesIn 1 (some .boolean) :: ([.fieldLink RX10 153 "NotEndedModel" "deep" "I", .initialized RX10, .selects RX10 yX10_fails yX10_fails, .instanceMethod yX10_fails, .methodLink RX10 156 yX10_fails] ++ (wsX100 ++ (w_s_fails10x)))
theorem gw_s_goesIn10x_6 : (w_s_goesIn10x_6).all goodWord = true := kGc rfl (kGa (by decide +kernel) (kGa gw_wsX100 gw_s_fails10x))
set_option maxHeartbeats 4000000 in
set_option maxRecDepth 100000 in
theorem s_goesIn10x_6 (l : Launch) (dC : Nat → ClassId) (dI : Nat → Nat → Nat) (jM : Nat) (v0 : Value) (v1 : Value) (v2 : Value) (v3 : Value) (v6 : Value) (v7 : Value) (v8 : Value) (v14 : Value) (v15 : Value) (v18 : Value) (v19 : Value) (v20 : Value) (v21 : Value) (v22 : Value) (v23 : Value) (v24 : Value) (v25 : Value) (v26 : Value) (v27 : Value) (v28 : Value) (v29 : Value) (v30 : Value) (v31 : Value) (v32 : Value) (v33 : Value) (v34 : Value) (v35 : Value) (v36 : Value) (v37 : Value) (v38 : Value) (v39 : Value) (v40 : Value) (v41 : Value) (v42 : Value) (v43 : Value) (v44 : Value) (v45 : Value) (v46 : Value) (v47 : Value) (v48 : Value) (v49 : Value) (v50 : Value) (v51 : Value) (lt : Nat) (q6 : Nat) (q7 : Nat) (tx : Nat) (be : Nat) (en : Nat) (a : Nat) (ha : a ≤ en) (hen : en ≤ 1680) (sz : Nat) : Met l yX10_goesIn w_s_goesIn10x_6 ({ frames := 2, cells := 0, slots := 0, locals := 120 }) (kW dC dI [.ref jM] [(jM, .inr (10, [v0, v1, v2, v3, .ref lt, .ref tx, v6, v7, v8, .int (nI (be)), .int (nI (en)), .int (nI (a)), .int (-1), .int 6, v14, v15, .ref q6, .ref q7, v18, v19, v20, v21, v22, v23, v24, v25, v26, v27, v28, v29, v30, v31, v32, v33, v34, v35, v36, v37, v38, v39, v40, v41, v42, v43, v44, v45, v46, v47, v48, v49, v50, v51]))] [] kT sz) (va_Qi (fun (r : Int32) (_ : Unit) => r = 0) (fun (_ : Unit) => fun t : State => kB dC dI [(jM, .inr (10, [v0, v1, v2, v3, .ref lt, .ref tx, v6, v7, v8, .int (nI (be)), .int (nI (en)), .int (nI (a)), .int (nI (a)), .int 6, v14, v15, .ref q6, .ref q7, v18, v19, v20, v21, v22, v23, v24, v25, v26, v27, v28, v29, v30, v31, v32, v33, v34, v35, v36, v37, v38, v39, v40, v41, v42, v43, v44, v45, v46, v47, v48, v49, v50, v51]))] [] (va_A [(jM, .inr (10, [v0, v1, v2, v3, .ref lt, .ref tx, v6, v7, v8, .int (nI (be)), .int (nI (en)), .int (nI (a)), .int (-1), .int 6, v14, v15, .ref q6, .ref q7, v18, v19, v20, v21, v22, v23, v24, v25, v26, v27, v28, v29, v30, v31, v32, v33, v34, v35, v36, v37, v38, v39, v40, v41, v42, v43, v44, v45, v46, v47, v48, v49, v50, v51]))] sz) t) (va_A [(jM, .inr (10, [v0, v1, v2, v3, .ref lt, .ref tx, v6, v7, v8, .int (nI (be)), .int (nI (en)), .int (nI (a)), .int (-1), .int 6, v14, v15, .ref q6, .ref q7, v18, v19, v20, v21, v22, v23, v24, v25, v26, v27, v28, v29, v30, v31, v32, v33, v34, v35, v36, v37, v38, v39, v40, v41, v42, v43, v44, v45, v46, v47, v48, v49, v50, v51]))] sz)) 0 0 (va_A [(jM, .inr (10, [v0, v1, v2, v3, .ref lt, .ref tx, v6, v7, v8, .int (nI (be)), .int (nI (en)), .int (nI (a)), .int (-1), .int 6, v14, v15, .ref q6, .ref q7, v18, v19, v20, v21, v22, v23, v24, v25, v26, v27, v28, v29, v30, v31, v32, v33, v34, v35, v36, v37, v38, v39, v40, v41, v42, v43, v44, v45, v46, v47, v48, v49, v50, v51]))] sz) := by
  refine Met.ofW (cc := cX10_goesIn) (maxL := 1) (ret := (some .boolean)) (by decide) rfl ?_
  intro p e s m args below meth c s₁ B hml hv
  obtain ⟨rfl, hsz, hP, hK, hD0, hX⟩ := hv
  have hx := B.exec
  have hb := B.bytes
  have hr := B.returns
  have hts := atoms_spec (ws := w_s_goesIn10x_6) B.pre
  have hown : s.vm.findClass RX10 = some m.cls := findClass_of_methodNamed B.named
  have hlocks := B.notSynchronized
  subst hsz
  have hD := hD0.self (sz := s.heap.size)
  generalize hAe : va_A [(jM, .inr (10, [v0, v1, v2, v3, .ref lt, .ref tx, v6, v7, v8, .int (nI (be)), .int (nI (en)), .int (nI (a)), .int (-1), .int 6, v14, v15, .ref q6, .ref q7, v18, v19, v20, v21, v22, v23, v24, v25, v26, v27, v28, v29, v30, v31, v32, v33, v34, v35, v36, v37, v38, v39, v40, v41, v42, v43, v44, v45, v46, v47, v48, v49, v50, v51]))] s.heap.size = A at hD ⊢
  have hA : ∀ q : Nat, s.heap.size ≤ q → A q := fun q h => by rw [← hAe]; exact Or.inr h
  have hS : va_S A s.heap s.heap [] := va_S.rf
  have hP : va_P (dC, dI) vwCl [(jM, .inr (10, [v0, v1, v2, v3, .ref lt, .ref tx, v6, v7, v8, .int (nI (be)), .int (nI (en)), .int (nI (a)), .int (-1), .int 6, v14, v15, .ref q6, .ref q7, v18, v19, v20, v21, v22, v23, v24, v25, v26, v27, v28, v29, v30, v31, v32, v33, v34, v35, v36, v37, v38, v39, v40, v41, v42, v43, v44, v45, v46, v47, v48, v49, v50, v51]))] s.heap := hP
  have hl := lv_entry ([.ref jM]) (n := 1) (Nat.le_of_ble_eq_true rfl)
  rw [lg_entry_eq]
  generalize (lg_sl ([.ref jM]) ++ List.replicate (1 - (lg_sl ([.ref jM])).length) Slot.unset).toArray = ls at hl ⊢
  have hl : lv_has ls 1 [(0, .ref jM)] := hl
  refine kQ (fun Q hQ => ?_)
  refine lv_aload_n hx hb dX10_goesIn_0 rfl (lv_at hl 0 rfl) ?_
  refine va_get (D := (dC, dI)) (ci := 10) (v := .int 6) (C := RX10) (T := TX10) (N := 52) hx hb hts (fun _ h => List.mem_cons_of_mem _ (List.mem_append_right _ (List.mem_append_left _ h))) hown hK hP 0 rfl rfl 13 kc_l_13_52 (hts (.fieldLink RX10 153 "NotEndedModel" "deep" "I") (List.mem_cons_of_mem _ (List.mem_append_left _ (List.mem_of_getElem? (i := 0) rfl)))) (fun _ h9 => h9) rfl dX10_goesIn_1 ?_
  refine lv_bipush (v := 6) hx hb dX10_goesIn_4 kc_b_6 ?_
  refine lv_icmp_ne (tgt := 14) hx hb dX10_goesIn_6 kc_t_6_8 (fun c_1 => absurd (by decide) c_1) (fun c_1 => ?_)
  refine lv_aload_n hx hb dX10_goesIn_9 rfl (lv_at hl 0 rfl) ?_
  have hCu := kCut (wc := [(jM, .inr (10, [v0, v1, v2, v3, .ref lt, .ref tx, v6, v7, v8, .int (nI (be)), .int (nI (en)), .int (nI (a)), .int (-1), .int 6, v14, v15, .ref q6, .ref q7, v18, v19, v20, v21, v22, v23, v24, v25, v26, v27, v28, v29, v30, v31, v32, v33, v34, v35, v36, v37, v38, v39, v40, v41, v42, v43, v44, v45, v46, v47, v48, v49, v50, v51]))]) hP hD hS hA [0] rfl kc_nd_603 rfl
  have hPc := hCu.1
  have hDc := hCu.2.1
  have hFc := hCu.2.2
  have hKc := hK.sb (tys2 := []) [] rfl
  refine va_calli (va_runV (As := []) (rest := []) ⟨hx, hb, hml, hown, hts⟩ (s_fails10x l dC dI jM (v0 : Value) (v1 : Value) (v2 : Value) (v3 : Value) (v6 : Value) (v7 : Value) (v8 : Value) (.int 6 : Value) (v14 : Value) (v15 : Value) (v18 : Value) (v19 : Value) (v20 : Value) (v21 : Value) (v22 : Value) (v23 : Value) (v24 : Value) (v25 : Value) (v26 : Value) (v27 : Value) (v28 : Value) (v29 : Value) (v30 : Value) (v31 : Value) (v32 : Value) (v33 : Value) (v34 : Value) (v35 : Value) (v36 : Value) (v37 : Value) (v38 : Value) (v39 : Value) (v40 : Value) (v41 : Value) (v42 : Value) (v43 : Value) (v44 : Value) (v45 : Value) (v46 : Value) (v47 : Value) (v48 : Value) (v49 : Value) (v50 : Value) (v51 : Value) lt q6 q7 tx be en a ha hen s.heap.size) (cwV 0 hts (kG (List.forall_mem_cons.mpr ⟨(List.mem_cons_of_mem _ (List.mem_append_left _ (List.mem_of_getElem? (i := 4) rfl))), (List.forall_mem_cons.mpr ⟨(List.mem_cons_of_mem _ (List.mem_append_left _ (List.mem_of_getElem? (i := 3) rfl))), (List.forall_mem_cons.mpr ⟨(List.mem_cons_of_mem _ (List.mem_append_left _ (List.mem_of_getElem? (i := 2) rfl))), (List.forall_mem_cons.mpr ⟨(List.mem_cons_of_mem _ (List.mem_append_left _ (List.mem_of_getElem? (i := 1) rfl))), (fun _ h => absurd h List.not_mem_nil)⟩)⟩)⟩)⟩) (kGV _ _ _ _) (fun _ h => List.mem_cons_of_mem _ (List.mem_append_right _ (List.mem_append_right _ h))) gw_s_fails10x) rfl rfl rfl ⟨rfl, hd_X10_fails⟩ ⟨(Nat.le_of_ble_eq_true rfl), (Nat.le_of_ble_eq_true rfl)⟩) (kW_V kT_blind kT_give (va_recv hKc hPc (ci := 10) (q0 := 0) rfl rfl) hPc hKc hDc) rfl rfl hl.1 rfl (lv_room (Nat.le_of_ble_eq_true rfl)) dX10_goesIn_10 ⟨(Nat.le_of_ble_eq_true rfl), (Nat.le_of_ble_eq_true rfl)⟩) hS (fun q _ h => hFc q h) hFc (fun r_2 _ t H_3 locs ht hvm hw hB hz1 hk1 hS => ?_)
  try dsimp only at hw
  have hPD : kPD dC dI A [(jM, .inr (10, [(v0 : Value), (v1 : Value), (v2 : Value), (v3 : Value), .ref lt, .ref tx, (v6 : Value), (v7 : Value), (v8 : Value), .int (nI (be)), .int (nI (en)), .int (nI (a)), .int (nI (a)), .int 6, (v14 : Value), (v15 : Value), .ref q6, .ref q7, (v18 : Value), (v19 : Value), (v20 : Value), (v21 : Value), (v22 : Value), (v23 : Value), (v24 : Value), (v25 : Value), (v26 : Value), (v27 : Value), (v28 : Value), (v29 : Value), (v30 : Value), (v31 : Value), (v32 : Value), (v33 : Value), (v34 : Value), (v35 : Value), (v36 : Value), (v37 : Value), (v38 : Value), (v39 : Value), (v40 : Value), (v41 : Value), (v42 : Value), (v43 : Value), (v44 : Value), (v45 : Value), (v46 : Value), (v47 : Value), (v48 : Value), (v49 : Value), (v50 : Value), (v51 : Value)]))] H_3 := kJoinX hP hD [0] rfl hk1 hFc hB.1 ht hB.2.2 rfl [some 0] rfl rfl
  obtain ⟨hP, hD⟩ := hPD
  obtain rfl : r_2 = 0 := hw
  have hP9 := hP
  have hD9 := hD
  have hK9 := hK
  rw [hQ]
  exact W.zret (v := 0) hx hb hr rfl (fun t ht hW => ⟨⟨0, (), rfl, rfl,  by rw [ht]; exact hP9, va_K.moved hW.alike hK9, hD9⟩, hS.F ht⟩) hS.2.2 dX10_goesIn_13

def w_s_takes10x_58 : List Cond := .code yX10_takes cX10_takes 2 (some .boolean) :: ([.fieldLink RX10 150 "NotEndedModel" "fault" "I", .initialized RX10, .selects RX10 yX10_look yX10_look, .instanceMethod yX10_look, .methodLink RX10 160 yX10_look, .fieldLink RX10 141 "NotEndedModel" "at" "I", .selects RX10 yX10_fails yX10_fails, .instanceMethod yX10_fails, .methodLink RX10 156 yX10_fails] ++ (wsX100 ++ (w_s_look10x ++ (w_s_fails10x))))
theorem gw_s_takes10x_58 : (w_s_takes10x_58).all goodWord = true := kGc rfl (kGa (by decide +kernel) (kGa gw_wsX100 (kGa gw_s_look10x gw_s_fails10x)))
set_option maxHeartbeats 4000000 in
set_option maxRecDepth 100000 in
theorem s_takes10x_58 (l : Launch) (dC : Nat → ClassId) (dI : Nat → Nat → Nat) (jM : Nat) (v0 : Value) (v1 : Value) (v2 : Value) (v3 : Value) (v6 : Value) (v7 : Value) (v8 : Value) (v13 : Value) (v14 : Value) (v15 : Value) (v18 : Value) (v19 : Value) (v20 : Value) (v21 : Value) (v22 : Value) (v23 : Value) (v24 : Value) (v25 : Value) (v26 : Value) (v27 : Value) (v28 : Value) (v29 : Value) (v30 : Value) (v31 : Value) (v32 : Value) (v33 : Value) (v34 : Value) (v35 : Value) (v36 : Value) (v37 : Value) (v38 : Value) (v39 : Value) (v40 : Value) (v41 : Value) (v42 : Value) (v43 : Value) (v44 : Value) (v45 : Value) (v46 : Value) (v47 : Value) (v48 : Value) (v49 : Value) (v50 : Value) (v51 : Value) (lt : Nat) (q6 : Nat) (q7 : Nat) (tx : Nat) (cT : ClassId) (nT : Nat) (gT : Nat → Int32) (be : Nat) (en : Nat) (a : Nat) (hbe : be + en ≤ nT) (hnT : nT ≤ 1680) (ha : a ≤ en) (bt : Nat → Nat) (hbr : ∀ j : Nat, j < en → gT (be + j) = kSg (bt j)) (hb8 : ∀ j : Nat, bt j < 256) (hb1 : ∀ j : Nat, j < en → 1 ≤ bt j) (hen9 : en ≤ 120) (sz : Nat) : Met l yX10_takes w_s_takes10x_58 ({ frames := 2, cells := 0, slots := 0, locals := 120 }) (kW dC dI [.ref jM, .int 58] [(jM, .inr (10, [v0, v1, v2, v3, .ref lt, .ref tx, v6, v7, v8, .int (nI (be)), .int (nI (en)), .int (nI (a)), .int (-1), v13, v14, v15, .ref q6, .ref q7, v18, v19, v20, v21, v22, v23, v24, v25, v26, v27, v28, v29, v30, v31, v32, v33, v34, v35, v36, v37, v38, v39, v40, v41, v42, v43, v44, v45, v46, v47, v48, v49, v50, v51])), (tx, .inl (cT, nT, .inl gT))] [(cT, .byte)] kT sz) (va_Qi (fun (r : Int32) (u : Nat × Int32 × Bool) => match u with | (a1, xf, xo) => (r = kBo xo ∧ kTk bt en 58 a [] = (xo, a1, []) ∧ a ≤ a1 ∧ a1 ≤ en ∧ (xo = true → xf = -1 ∧ a < a1) ∧ (xo = false → xf = nI a1))) (fun (u : Nat × Int32 × Bool) => match u with | (a1, xf, xo) => fun t : State => kB dC dI [(jM, .inr (10, [v0, v1, v2, v3, .ref lt, .ref tx, v6, v7, v8, .int (nI (be)), .int (nI (en)), .int (nI (a1)), .int xf, v13, v14, v15, .ref q6, .ref q7, v18, v19, v20, v21, v22, v23, v24, v25, v26, v27, v28, v29, v30, v31, v32, v33, v34, v35, v36, v37, v38, v39, v40, v41, v42, v43, v44, v45, v46, v47, v48, v49, v50, v51])), (tx, .inl (cT, nT, .inl gT))] [(cT, .byte)] (va_A [(jM, .inr (10, [v0, v1, v2, v3, .ref lt, .ref tx, v6, v7, v8, .int (nI (be)), .int (nI (en)), .int (nI (a)), .int (-1), v13, v14, v15, .ref q6, .ref q7, v18, v19, v20, v21, v22, v23, v24, v25, v26, v27, v28, v29, v30, v31, v32, v33, v34, v35, v36, v37, v38, v39, v40, v41, v42, v43, v44, v45, v46, v47, v48, v49, v50, v51])), (tx, .inl (cT, nT, .inl gT))] sz) t) (va_A [(jM, .inr (10, [v0, v1, v2, v3, .ref lt, .ref tx, v6, v7, v8, .int (nI (be)), .int (nI (en)), .int (nI (a)), .int (-1), v13, v14, v15, .ref q6, .ref q7, v18, v19, v20, v21, v22, v23, v24, v25, v26, v27, v28, v29, v30, v31, v32, v33, v34, v35, v36, v37, v38, v39, v40, v41, v42, v43, v44, v45, v46, v47, v48, v49, v50, v51])), (tx, .inl (cT, nT, .inl gT))] sz)) 0 0 (va_A [(jM, .inr (10, [v0, v1, v2, v3, .ref lt, .ref tx, v6, v7, v8, .int (nI (be)), .int (nI (en)), .int (nI (a)), .int (-1), v13, v14, v15, .ref q6, .ref q7, v18, v19, v20, v21, v22, v23, v24, v25, v26, v27, v28, v29, v30, v31, v32, v33, v34, v35, v36, v37, v38, v39, v40, v41, v42, v43, v44, v45, v46, v47, v48, v49, v50, v51])), (tx, .inl (cT, nT, .inl gT))] sz) := by
  refine Met.ofW (cc := cX10_takes) (maxL := 2) (ret := (some .boolean)) (by decide) rfl ?_
  intro p e s m args below meth c s₁ B hml hv
  obtain ⟨rfl, hsz, hP, hK, hD0, hX⟩ := hv
  have hx := B.exec
  have hb := B.bytes
  have hr := B.returns
  have hts := atoms_spec (ws := w_s_takes10x_58) B.pre
  have hown : s.vm.findClass RX10 = some m.cls := findClass_of_methodNamed B.named
  have hlocks := B.notSynchronized
  subst hsz
  have hD := hD0.self (sz := s.heap.size)
  generalize hAe : va_A [(jM, .inr (10, [v0, v1, v2, v3, .ref lt, .ref tx, v6, v7, v8, .int (nI (be)), .int (nI (en)), .int (nI (a)), .int (-1), v13, v14, v15, .ref q6, .ref q7, v18, v19, v20, v21, v22, v23, v24, v25, v26, v27, v28, v29, v30, v31, v32, v33, v34, v35, v36, v37, v38, v39, v40, v41, v42, v43, v44, v45, v46, v47, v48, v49, v50, v51])), (tx, .inl (cT, nT, .inl gT))] s.heap.size = A at hD ⊢
  have hA : ∀ q : Nat, s.heap.size ≤ q → A q := fun q h => by rw [← hAe]; exact Or.inr h
  have hS : va_S A s.heap s.heap [] := va_S.rf
  have hP : va_P (dC, dI) vwCl [(jM, .inr (10, [v0, v1, v2, v3, .ref lt, .ref tx, v6, v7, v8, .int (nI (be)), .int (nI (en)), .int (nI (a)), .int (-1), v13, v14, v15, .ref q6, .ref q7, v18, v19, v20, v21, v22, v23, v24, v25, v26, v27, v28, v29, v30, v31, v32, v33, v34, v35, v36, v37, v38, v39, v40, v41, v42, v43, v44, v45, v46, v47, v48, v49, v50, v51])), (tx, .inl (cT, nT, .inl gT))] s.heap := hP
  have hl := lv_entry ([.ref jM, .int 58]) (n := 2) (Nat.le_of_ble_eq_true rfl)
  rw [lg_entry_eq]
  generalize (lg_sl ([.ref jM, .int 58]) ++ List.replicate (2 - (lg_sl ([.ref jM, .int 58])).length) Slot.unset).toArray = ls at hl ⊢
  have hl : lv_has ls 2 [(0, .ref jM), (1, .int 58)] := hl
  refine kQ (fun Q hQ => ?_)
  refine lv_aload_n hx hb dX10_takes_0 rfl (lv_at hl 0 rfl) ?_
  refine va_get (D := (dC, dI)) (ci := 10) (v := .int (-1)) (C := RX10) (T := TX10) (N := 52) hx hb hts (fun _ h => List.mem_cons_of_mem _ (List.mem_append_right _ (List.mem_append_left _ h))) hown hK hP 0 rfl rfl 12 kc_l_12_52 (hts (.fieldLink RX10 150 "NotEndedModel" "fault" "I") (List.mem_cons_of_mem _ (List.mem_append_left _ (List.mem_of_getElem? (i := 0) rfl)))) (fun _ h9 => h9) rfl dX10_takes_1 ?_
  refine lv_iconst (v := (-1)) hx hb dX10_takes_4 kc_i_m1 ?_
  refine lv_icmp_ne (tgt := 16) hx hb dX10_takes_5 kc_t_5_11 (fun c_1 => absurd (by decide) c_1) (fun c_1 => ?_)
  refine lv_aload_n hx hb dX10_takes_8 rfl (lv_at hl 0 rfl) ?_
  have bd_2 : be + en ≤ nT := by omega
  have hCu := kCut (wc := [(jM, .inr (10, [v0, v1, v2, v3, .ref lt, .ref tx, v6, v7, v8, .int (nI (be)), .int (nI (en)), .int (nI (a)), .int (-1), v13, v14, v15, .ref q6, .ref q7, v18, v19, v20, v21, v22, v23, v24, v25, v26, v27, v28, v29, v30, v31, v32, v33, v34, v35, v36, v37, v38, v39, v40, v41, v42, v43, v44, v45, v46, v47, v48, v49, v50, v51])), (tx, .inl (cT, nT, .inl gT))]) hP hD hS hA [0, 1] rfl kc_nd_434 rfl
  have hPc := hCu.1
  have hDc := hCu.2.1
  have hFc := hCu.2.2
  have hKc := hK.sb (tys2 := [(cT, .byte)]) [0] rfl
  refine va_calli (va_runV (As := []) (rest := []) ⟨hx, hb, hml, hown, hts⟩ (s_look10x l dC dI jM (v0 : Value) (v1 : Value) (v2 : Value) (v3 : Value) (v6 : Value) (v7 : Value) (v8 : Value) (.int (-1) : Value) (v13 : Value) (v14 : Value) (v15 : Value) (v18 : Value) (v19 : Value) (v20 : Value) (v21 : Value) (v22 : Value) (v23 : Value) (v24 : Value) (v25 : Value) (v26 : Value) (v27 : Value) (v28 : Value) (v29 : Value) (v30 : Value) (v31 : Value) (v32 : Value) (v33 : Value) (v34 : Value) (v35 : Value) (v36 : Value) (v37 : Value) (v38 : Value) (v39 : Value) (v40 : Value) (v41 : Value) (v42 : Value) (v43 : Value) (v44 : Value) (v45 : Value) (v46 : Value) (v47 : Value) (v48 : Value) (v49 : Value) (v50 : Value) (v51 : Value) lt q6 q7 tx cT nT gT be en a bd_2 hnT ha bt hbr hb8 hb1 hen9 s.heap.size) (cwV 0 hts (kG (List.forall_mem_cons.mpr ⟨(List.mem_cons_of_mem _ (List.mem_append_left _ (List.mem_of_getElem? (i := 4) rfl))), (List.forall_mem_cons.mpr ⟨(List.mem_cons_of_mem _ (List.mem_append_left _ (List.mem_of_getElem? (i := 3) rfl))), (List.forall_mem_cons.mpr ⟨(List.mem_cons_of_mem _ (List.mem_append_left _ (List.mem_of_getElem? (i := 2) rfl))), (List.forall_mem_cons.mpr ⟨(List.mem_cons_of_mem _ (List.mem_append_left _ (List.mem_of_getElem? (i := 1) rfl))), (fun _ h => absurd h List.not_mem_nil)⟩)⟩)⟩)⟩) (kGV _ _ _ _) (fun _ h => List.mem_cons_of_mem _ (List.mem_append_right _ (List.mem_append_right _ (List.mem_append_left _ h)))) gw_s_look10x) rfl rfl rfl ⟨rfl, hd_X10_look⟩ ⟨(Nat.le_of_ble_eq_true rfl), (Nat.le_of_ble_eq_true rfl)⟩) (kW_V kT_blind kT_give (va_recv hKc hPc (ci := 10) (q0 := 0) rfl rfl) hPc hKc hDc) rfl rfl hl.1 rfl (lv_room (Nat.le_of_ble_eq_true rfl)) dX10_takes_9 ⟨(Nat.le_of_ble_eq_true rfl), (Nat.le_of_ble_eq_true rfl)⟩) hS (fun q _ h => hFc q h) hFc (fun r_3 => kU2 (fun a1_4 ch_5 t H_6 locs ht hvm hw hB hz1 hk1 hS => ?_))
  try dsimp only at hw
  have hPD : kPD dC dI A [(jM, .inr (10, [(v0 : Value), (v1 : Value), (v2 : Value), (v3 : Value), .ref lt, .ref tx, (v6 : Value), (v7 : Value), (v8 : Value), .int (nI (be)), .int (nI (en)), .int (nI (a1_4)), .int (-1), (v13 : Value), (v14 : Value), (v15 : Value), .ref q6, .ref q7, (v18 : Value), (v19 : Value), (v20 : Value), (v21 : Value), (v22 : Value), (v23 : Value), (v24 : Value), (v25 : Value), (v26 : Value), (v27 : Value), (v28 : Value), (v29 : Value), (v30 : Value), (v31 : Value), (v32 : Value), (v33 : Value), (v34 : Value), (v35 : Value), (v36 : Value), (v37 : Value), (v38 : Value), (v39 : Value), (v40 : Value), (v41 : Value), (v42 : Value), (v43 : Value), (v44 : Value), (v45 : Value), (v46 : Value), (v47 : Value), (v48 : Value), (v49 : Value), (v50 : Value), (v51 : Value)])), (tx, .inl (cT, nT, .inl gT))] H_6 := kJoinX hP hD [0, 1] rfl hk1 hFc hB.1 ht hB.2.2 rfl [some 0, some 1] rfl rfl
  obtain ⟨hP, hD⟩ := hPD
  have hw_7 := hw
  have hw_7_0 := hw_7.1
  have hw_7_1 := hw_7.2.1
  have hw_7_2 := hw_7.2.2.1
  have hw_7_3 := hw_7.2.2.2.1
  have hw_7_4 := hw_7.2.2.2.2.1
  have hw_7_5 := hw_7.2.2.2.2.2.1
  have hw_7_6 := hw_7.2.2.2.2.2.2.1
  have hw_7_7 := hw_7.2.2.2.2.2.2.2
  clear hw_7
  refine lv_iload_n hx hb dX10_takes_12 rfl (lv_at hl 1 rfl) ?_
  refine lv_icmp_eq (tgt := 21) hx hb dX10_takes_13 kc_t_13_8 (fun c_8 => ?_) (fun c_8 => ?_)
  · have hk_9 := kLr_e hw_7_0 (by omega) (k := 58) (by decide) c_8
    refine lv_aload_n hx hb dX10_takes_21 rfl (lv_at hl 0 rfl) ?_
    refine lv_dup hx hb dX10_takes_22 rfl ?_
    refine va_get (D := (dC, dI)) (ci := 10) (v := .int (nI (a1_4))) (C := RX10) (T := TX10) (N := 52) hx hb hts (fun _ h => List.mem_cons_of_mem _ (List.mem_append_right _ (List.mem_append_left _ h))) hown hK hP 0 rfl rfl 11 kc_l_11_52 (hts (.fieldLink RX10 141 "NotEndedModel" "at" "I") (List.mem_cons_of_mem _ (List.mem_append_left _ (List.mem_of_getElem? (i := 5) rfl)))) (fun _ h9 => h9) rfl dX10_takes_23 ?_
    refine lv_iconst (v := 1) hx hb dX10_takes_26 kc_i_1 ?_
    refine lv_iadd hx hb dX10_takes_27 ?_
    refine lv_topi (fun y_10 ey_10 => ?_)
    obtain rfl : y_10 = nI (a1_4 + 1) := ey_10.trans (nI_add (a1_4) (1))
    refine va_put (D := (dC, dI)) (ci := 10) (v := .int (nI (a1_4 + 1))) (ty := tyX10 11) (C := RX10) (T := TX10) (N := 52) hx hb hts (fun _ h => List.mem_cons_of_mem _ (List.mem_append_right _ (List.mem_append_left _ h))) tyX10 tyX10_ok nmX10 hown hK hP hD hS 0 rfl rfl 11 kc_l_11_52 (hts (.fieldLink RX10 141 "NotEndedModel" "at" "I") (List.mem_cons_of_mem _ (List.mem_append_left _ (List.mem_of_getElem? (i := 5) rfl)))) (fun _ h9 => h9) rfl (tyX10_ok 11 kc_l_11_52) rfl rfl (Nat.le_of_ble_eq_true rfl) dX10_takes_28 (fun H locs hP hD hS => ?_)
    have hPD : kPD dC dI A [(jM, .inr (10, [(v0 : Value), (v1 : Value), (v2 : Value), (v3 : Value), .ref lt, .ref tx, (v6 : Value), (v7 : Value), (v8 : Value), .int (nI (be)), .int (nI (en)), .int (nI (a1_4 + 1)), .int (-1), (v13 : Value), (v14 : Value), (v15 : Value), .ref q6, .ref q7, (v18 : Value), (v19 : Value), (v20 : Value), (v21 : Value), (v22 : Value), (v23 : Value), (v24 : Value), (v25 : Value), (v26 : Value), (v27 : Value), (v28 : Value), (v29 : Value), (v30 : Value), (v31 : Value), (v32 : Value), (v33 : Value), (v34 : Value), (v35 : Value), (v36 : Value), (v37 : Value), (v38 : Value), (v39 : Value), (v40 : Value), (v41 : Value), (v42 : Value), (v43 : Value), (v44 : Value), (v45 : Value), (v46 : Value), (v47 : Value), (v48 : Value), (v49 : Value), (v50 : Value), (v51 : Value)])), (tx, .inl (cT, nT, .inl gT))] H := ⟨hP, hD⟩
    obtain ⟨hP, hD⟩ := hPD
    refine lv_iconst (v := 1) hx hb dX10_takes_31 kc_i_1 ?_
    have hP9 := hP
    have hD9 := hD
    have hK9 := hK
    rw [hQ]
    exact W.zret (v := 1) hx hb hr rfl (fun t ht hW => ⟨⟨1, ((a1_4 + 1), (-1), true), rfl, ⟨rfl, by unfold kTk; rw [← hw_7_1, ← hw_7_2, if_pos (by omega)], by omega, by omega, fun _ => ⟨rfl, by omega⟩, fun z9 => absurd z9 (by decide)⟩,  by rw [ht]; exact hP9, va_K.moved hW.alike hK9, hD9⟩, hS.F ht⟩) hS.2.2 dX10_takes_32
  · have hk_11 := kLr_n hw_7_0 (by omega) (k := 58) (by decide) c_8
    refine lv_aload_n hx hb dX10_takes_16 rfl (lv_at hl 0 rfl) ?_
    have bd_12 : a1_4 ≤ en := by omega
    have bd_13 : en ≤ 1680 := by omega
    have hCu := kCut (wc := [(jM, .inr (10, [(v0 : Value), (v1 : Value), (v2 : Value), (v3 : Value), .ref lt, .ref tx, (v6 : Value), (v7 : Value), (v8 : Value), .int (nI (be)), .int (nI (en)), .int (nI (a1_4)), .int (-1), (v13 : Value), (v14 : Value), (v15 : Value), .ref q6, .ref q7, (v18 : Value), (v19 : Value), (v20 : Value), (v21 : Value), (v22 : Value), (v23 : Value), (v24 : Value), (v25 : Value), (v26 : Value), (v27 : Value), (v28 : Value), (v29 : Value), (v30 : Value), (v31 : Value), (v32 : Value), (v33 : Value), (v34 : Value), (v35 : Value), (v36 : Value), (v37 : Value), (v38 : Value), (v39 : Value), (v40 : Value), (v41 : Value), (v42 : Value), (v43 : Value), (v44 : Value), (v45 : Value), (v46 : Value), (v47 : Value), (v48 : Value), (v49 : Value), (v50 : Value), (v51 : Value)]))]) hP hD hS hA [0] rfl kc_nd_603 rfl
    have hPc := hCu.1
    have hDc := hCu.2.1
    have hFc := hCu.2.2
    have hKc := hK.sb (tys2 := []) [] rfl
    refine va_calli (va_runV (As := []) (rest := []) ⟨hx, hb, hml, hown, hts⟩ (s_fails10x l dC dI jM ((v0 : Value) : Value) ((v1 : Value) : Value) ((v2 : Value) : Value) ((v3 : Value) : Value) ((v6 : Value) : Value) ((v7 : Value) : Value) ((v8 : Value) : Value) ((v13 : Value) : Value) ((v14 : Value) : Value) ((v15 : Value) : Value) ((v18 : Value) : Value) ((v19 : Value) : Value) ((v20 : Value) : Value) ((v21 : Value) : Value) ((v22 : Value) : Value) ((v23 : Value) : Value) ((v24 : Value) : Value) ((v25 : Value) : Value) ((v26 : Value) : Value) ((v27 : Value) : Value) ((v28 : Value) : Value) ((v29 : Value) : Value) ((v30 : Value) : Value) ((v31 : Value) : Value) ((v32 : Value) : Value) ((v33 : Value) : Value) ((v34 : Value) : Value) ((v35 : Value) : Value) ((v36 : Value) : Value) ((v37 : Value) : Value) ((v38 : Value) : Value) ((v39 : Value) : Value) ((v40 : Value) : Value) ((v41 : Value) : Value) ((v42 : Value) : Value) ((v43 : Value) : Value) ((v44 : Value) : Value) ((v45 : Value) : Value) ((v46 : Value) : Value) ((v47 : Value) : Value) ((v48 : Value) : Value) ((v49 : Value) : Value) ((v50 : Value) : Value) ((v51 : Value) : Value) lt q6 q7 tx be en a1_4 bd_12 bd_13 H_6.size) (cwV 0 hts (kG (List.forall_mem_cons.mpr ⟨(List.mem_cons_of_mem _ (List.mem_append_left _ (List.mem_of_getElem? (i := 8) rfl))), (List.forall_mem_cons.mpr ⟨(List.mem_cons_of_mem _ (List.mem_append_left _ (List.mem_of_getElem? (i := 7) rfl))), (List.forall_mem_cons.mpr ⟨(List.mem_cons_of_mem _ (List.mem_append_left _ (List.mem_of_getElem? (i := 6) rfl))), (List.forall_mem_cons.mpr ⟨(List.mem_cons_of_mem _ (List.mem_append_left _ (List.mem_of_getElem? (i := 1) rfl))), (fun _ h => absurd h List.not_mem_nil)⟩)⟩)⟩)⟩) (kGV _ _ _ _) (fun _ h => List.mem_cons_of_mem _ (List.mem_append_right _ (List.mem_append_right _ (List.mem_append_right _ h)))) gw_s_fails10x) rfl rfl rfl ⟨rfl, hd_X10_fails⟩ ⟨(Nat.le_of_ble_eq_true rfl), (Nat.le_of_ble_eq_true rfl)⟩) (kW_V kT_blind kT_give (va_recv hKc hPc (ci := 10) (q0 := 0) rfl rfl) hPc hKc hDc) rfl rfl hl.1 rfl (lv_room (Nat.le_of_ble_eq_true rfl)) dX10_takes_17 ⟨(Nat.le_of_ble_eq_true rfl), (Nat.le_of_ble_eq_true rfl)⟩) hS (fun q _ h => hFc q h) hFc (fun r_14 _ t H_15 locs ht hvm hw hB hz1 hk1 hS => ?_)
    try dsimp only at hw
    have hPD : kPD dC dI A [(jM, .inr (10, [((v0 : Value) : Value), ((v1 : Value) : Value), ((v2 : Value) : Value), ((v3 : Value) : Value), .ref lt, .ref tx, ((v6 : Value) : Value), ((v7 : Value) : Value), ((v8 : Value) : Value), .int (nI (be)), .int (nI (en)), .int (nI (a1_4)), .int (nI (a1_4)), ((v13 : Value) : Value), ((v14 : Value) : Value), ((v15 : Value) : Value), .ref q6, .ref q7, ((v18 : Value) : Value), ((v19 : Value) : Value), ((v20 : Value) : Value), ((v21 : Value) : Value), ((v22 : Value) : Value), ((v23 : Value) : Value), ((v24 : Value) : Value), ((v25 : Value) : Value), ((v26 : Value) : Value), ((v27 : Value) : Value), ((v28 : Value) : Value), ((v29 : Value) : Value), ((v30 : Value) : Value), ((v31 : Value) : Value), ((v32 : Value) : Value), ((v33 : Value) : Value), ((v34 : Value) : Value), ((v35 : Value) : Value), ((v36 : Value) : Value), ((v37 : Value) : Value), ((v38 : Value) : Value), ((v39 : Value) : Value), ((v40 : Value) : Value), ((v41 : Value) : Value), ((v42 : Value) : Value), ((v43 : Value) : Value), ((v44 : Value) : Value), ((v45 : Value) : Value), ((v46 : Value) : Value), ((v47 : Value) : Value), ((v48 : Value) : Value), ((v49 : Value) : Value), ((v50 : Value) : Value), ((v51 : Value) : Value)])), (tx, .inl (cT, nT, .inl gT))] H_15 := kJoinX hP hD [0] rfl hk1 hFc hB.1 ht hB.2.2 rfl [some 0, none] rfl rfl
    obtain ⟨hP, hD⟩ := hPD
    obtain rfl : r_14 = 0 := hw
    have hP9 := hP
    have hD9 := hD
    have hK9 := hK
    rw [hQ]
    exact W.zret (v := 0) hx hb hr rfl (fun t ht hW => ⟨⟨0, (a1_4, (nI (a1_4)), false), rfl, ⟨rfl, by unfold kTk; rw [← hw_7_1, ← hw_7_2, if_neg (by omega)], by omega, by omega, fun z9 => absurd z9 (by decide), fun _ => rfl⟩,  by rw [ht]; exact hP9, va_K.moved hW.alike hK9, hD9⟩, hS.F ht⟩) hS.2.2 dX10_takes_20

def w_s_takes10x_63 : List Cond := .code yX10_takes cX10_takes 2 (some .boolean) :: ([.fieldLink RX10 150 "NotEndedModel" "fault" "I", .initialized RX10, .selects RX10 yX10_look yX10_look, .instanceMethod yX10_look, .methodLink RX10 160 yX10_look, .fieldLink RX10 141 "NotEndedModel" "at" "I", .selects RX10 yX10_fails yX10_fails, .instanceMethod yX10_fails, .methodLink RX10 156 yX10_fails] ++ (wsX100 ++ (w_s_look10x ++ (w_s_fails10x))))
theorem gw_s_takes10x_63 : (w_s_takes10x_63).all goodWord = true := kGc rfl (kGa (by decide +kernel) (kGa gw_wsX100 (kGa gw_s_look10x gw_s_fails10x)))
set_option maxHeartbeats 4000000 in
set_option maxRecDepth 100000 in
theorem s_takes10x_63 (l : Launch) (dC : Nat → ClassId) (dI : Nat → Nat → Nat) (jM : Nat) (v0 : Value) (v1 : Value) (v2 : Value) (v3 : Value) (v6 : Value) (v7 : Value) (v8 : Value) (v13 : Value) (v14 : Value) (v15 : Value) (v18 : Value) (v19 : Value) (v20 : Value) (v21 : Value) (v22 : Value) (v23 : Value) (v24 : Value) (v25 : Value) (v26 : Value) (v27 : Value) (v28 : Value) (v29 : Value) (v30 : Value) (v31 : Value) (v32 : Value) (v33 : Value) (v34 : Value) (v35 : Value) (v36 : Value) (v37 : Value) (v38 : Value) (v39 : Value) (v40 : Value) (v41 : Value) (v42 : Value) (v43 : Value) (v44 : Value) (v45 : Value) (v46 : Value) (v47 : Value) (v48 : Value) (v49 : Value) (v50 : Value) (v51 : Value) (lt : Nat) (q6 : Nat) (q7 : Nat) (tx : Nat) (cT : ClassId) (nT : Nat) (gT : Nat → Int32) (be : Nat) (en : Nat) (a : Nat) (hbe : be + en ≤ nT) (hnT : nT ≤ 1680) (ha : a ≤ en) (bt : Nat → Nat) (hbr : ∀ j : Nat, j < en → gT (be + j) = kSg (bt j)) (hb8 : ∀ j : Nat, bt j < 256) (hb1 : ∀ j : Nat, j < en → 1 ≤ bt j) (hen9 : en ≤ 120) (sz : Nat) : Met l yX10_takes w_s_takes10x_63 ({ frames := 2, cells := 0, slots := 0, locals := 120 }) (kW dC dI [.ref jM, .int 63] [(jM, .inr (10, [v0, v1, v2, v3, .ref lt, .ref tx, v6, v7, v8, .int (nI (be)), .int (nI (en)), .int (nI (a)), .int (-1), v13, v14, v15, .ref q6, .ref q7, v18, v19, v20, v21, v22, v23, v24, v25, v26, v27, v28, v29, v30, v31, v32, v33, v34, v35, v36, v37, v38, v39, v40, v41, v42, v43, v44, v45, v46, v47, v48, v49, v50, v51])), (tx, .inl (cT, nT, .inl gT))] [(cT, .byte)] kT sz) (va_Qi (fun (r : Int32) (u : Nat × Int32 × Bool) => match u with | (a1, xf, xo) => (r = kBo xo ∧ kTk bt en 63 a [] = (xo, a1, []) ∧ a ≤ a1 ∧ a1 ≤ en ∧ (xo = true → xf = -1 ∧ a < a1) ∧ (xo = false → xf = nI a1))) (fun (u : Nat × Int32 × Bool) => match u with | (a1, xf, xo) => fun t : State => kB dC dI [(jM, .inr (10, [v0, v1, v2, v3, .ref lt, .ref tx, v6, v7, v8, .int (nI (be)), .int (nI (en)), .int (nI (a1)), .int xf, v13, v14, v15, .ref q6, .ref q7, v18, v19, v20, v21, v22, v23, v24, v25, v26, v27, v28, v29, v30, v31, v32, v33, v34, v35, v36, v37, v38, v39, v40, v41, v42, v43, v44, v45, v46, v47, v48, v49, v50, v51])), (tx, .inl (cT, nT, .inl gT))] [(cT, .byte)] (va_A [(jM, .inr (10, [v0, v1, v2, v3, .ref lt, .ref tx, v6, v7, v8, .int (nI (be)), .int (nI (en)), .int (nI (a)), .int (-1), v13, v14, v15, .ref q6, .ref q7, v18, v19, v20, v21, v22, v23, v24, v25, v26, v27, v28, v29, v30, v31, v32, v33, v34, v35, v36, v37, v38, v39, v40, v41, v42, v43, v44, v45, v46, v47, v48, v49, v50, v51])), (tx, .inl (cT, nT, .inl gT))] sz) t) (va_A [(jM, .inr (10, [v0, v1, v2, v3, .ref lt, .ref tx, v6, v7, v8, .int (nI (be)), .int (nI (en)), .int (nI (a)), .int (-1), v13, v14, v15, .ref q6, .ref q7, v18, v19, v20, v21, v22, v23, v24, v25, v26, v27, v28, v29, v30, v31, v32, v33, v34, v35, v36, v37, v38, v39, v40, v41, v42, v43, v44, v45, v46, v47, v48, v49, v50, v51])), (tx, .inl (cT, nT, .inl gT))] sz)) 0 0 (va_A [(jM, .inr (10, [v0, v1, v2, v3, .ref lt, .ref tx, v6, v7, v8, .int (nI (be)), .int (nI (en)), .int (nI (a)), .int (-1), v13, v14, v15, .ref q6, .ref q7, v18, v19, v20, v21, v22, v23, v24, v25, v26, v27, v28, v29, v30, v31, v32, v33, v34, v35, v36, v37, v38, v39, v40, v41, v42, v43, v44, v45, v46, v47, v48, v49, v50, v51])), (tx, .inl (cT, nT, .inl gT))] sz) := by
  refine Met.ofW (cc := cX10_takes) (maxL := 2) (ret := (some .boolean)) (by decide) rfl ?_
  intro p e s m args below meth c s₁ B hml hv
  obtain ⟨rfl, hsz, hP, hK, hD0, hX⟩ := hv
  have hx := B.exec
  have hb := B.bytes
  have hr := B.returns
  have hts := atoms_spec (ws := w_s_takes10x_63) B.pre
  have hown : s.vm.findClass RX10 = some m.cls := findClass_of_methodNamed B.named
  have hlocks := B.notSynchronized
  subst hsz
  have hD := hD0.self (sz := s.heap.size)
  generalize hAe : va_A [(jM, .inr (10, [v0, v1, v2, v3, .ref lt, .ref tx, v6, v7, v8, .int (nI (be)), .int (nI (en)), .int (nI (a)), .int (-1), v13, v14, v15, .ref q6, .ref q7, v18, v19, v20, v21, v22, v23, v24, v25, v26, v27, v28, v29, v30, v31, v32, v33, v34, v35, v36, v37, v38, v39, v40, v41, v42, v43, v44, v45, v46, v47, v48, v49, v50, v51])), (tx, .inl (cT, nT, .inl gT))] s.heap.size = A at hD ⊢
  have hA : ∀ q : Nat, s.heap.size ≤ q → A q := fun q h => by rw [← hAe]; exact Or.inr h
  have hS : va_S A s.heap s.heap [] := va_S.rf
  have hP : va_P (dC, dI) vwCl [(jM, .inr (10, [v0, v1, v2, v3, .ref lt, .ref tx, v6, v7, v8, .int (nI (be)), .int (nI (en)), .int (nI (a)), .int (-1), v13, v14, v15, .ref q6, .ref q7, v18, v19, v20, v21, v22, v23, v24, v25, v26, v27, v28, v29, v30, v31, v32, v33, v34, v35, v36, v37, v38, v39, v40, v41, v42, v43, v44, v45, v46, v47, v48, v49, v50, v51])), (tx, .inl (cT, nT, .inl gT))] s.heap := hP
  have hl := lv_entry ([.ref jM, .int 63]) (n := 2) (Nat.le_of_ble_eq_true rfl)
  rw [lg_entry_eq]
  generalize (lg_sl ([.ref jM, .int 63]) ++ List.replicate (2 - (lg_sl ([.ref jM, .int 63])).length) Slot.unset).toArray = ls at hl ⊢
  have hl : lv_has ls 2 [(0, .ref jM), (1, .int 63)] := hl
  refine kQ (fun Q hQ => ?_)
  refine lv_aload_n hx hb dX10_takes_0 rfl (lv_at hl 0 rfl) ?_
  refine va_get (D := (dC, dI)) (ci := 10) (v := .int (-1)) (C := RX10) (T := TX10) (N := 52) hx hb hts (fun _ h => List.mem_cons_of_mem _ (List.mem_append_right _ (List.mem_append_left _ h))) hown hK hP 0 rfl rfl 12 kc_l_12_52 (hts (.fieldLink RX10 150 "NotEndedModel" "fault" "I") (List.mem_cons_of_mem _ (List.mem_append_left _ (List.mem_of_getElem? (i := 0) rfl)))) (fun _ h9 => h9) rfl dX10_takes_1 ?_
  refine lv_iconst (v := (-1)) hx hb dX10_takes_4 kc_i_m1 ?_
  refine lv_icmp_ne (tgt := 16) hx hb dX10_takes_5 kc_t_5_11 (fun c_1 => absurd (by decide) c_1) (fun c_1 => ?_)
  refine lv_aload_n hx hb dX10_takes_8 rfl (lv_at hl 0 rfl) ?_
  have bd_2 : be + en ≤ nT := by omega
  have hCu := kCut (wc := [(jM, .inr (10, [v0, v1, v2, v3, .ref lt, .ref tx, v6, v7, v8, .int (nI (be)), .int (nI (en)), .int (nI (a)), .int (-1), v13, v14, v15, .ref q6, .ref q7, v18, v19, v20, v21, v22, v23, v24, v25, v26, v27, v28, v29, v30, v31, v32, v33, v34, v35, v36, v37, v38, v39, v40, v41, v42, v43, v44, v45, v46, v47, v48, v49, v50, v51])), (tx, .inl (cT, nT, .inl gT))]) hP hD hS hA [0, 1] rfl kc_nd_434 rfl
  have hPc := hCu.1
  have hDc := hCu.2.1
  have hFc := hCu.2.2
  have hKc := hK.sb (tys2 := [(cT, .byte)]) [0] rfl
  refine va_calli (va_runV (As := []) (rest := []) ⟨hx, hb, hml, hown, hts⟩ (s_look10x l dC dI jM (v0 : Value) (v1 : Value) (v2 : Value) (v3 : Value) (v6 : Value) (v7 : Value) (v8 : Value) (.int (-1) : Value) (v13 : Value) (v14 : Value) (v15 : Value) (v18 : Value) (v19 : Value) (v20 : Value) (v21 : Value) (v22 : Value) (v23 : Value) (v24 : Value) (v25 : Value) (v26 : Value) (v27 : Value) (v28 : Value) (v29 : Value) (v30 : Value) (v31 : Value) (v32 : Value) (v33 : Value) (v34 : Value) (v35 : Value) (v36 : Value) (v37 : Value) (v38 : Value) (v39 : Value) (v40 : Value) (v41 : Value) (v42 : Value) (v43 : Value) (v44 : Value) (v45 : Value) (v46 : Value) (v47 : Value) (v48 : Value) (v49 : Value) (v50 : Value) (v51 : Value) lt q6 q7 tx cT nT gT be en a bd_2 hnT ha bt hbr hb8 hb1 hen9 s.heap.size) (cwV 0 hts (kG (List.forall_mem_cons.mpr ⟨(List.mem_cons_of_mem _ (List.mem_append_left _ (List.mem_of_getElem? (i := 4) rfl))), (List.forall_mem_cons.mpr ⟨(List.mem_cons_of_mem _ (List.mem_append_left _ (List.mem_of_getElem? (i := 3) rfl))), (List.forall_mem_cons.mpr ⟨(List.mem_cons_of_mem _ (List.mem_append_left _ (List.mem_of_getElem? (i := 2) rfl))), (List.forall_mem_cons.mpr ⟨(List.mem_cons_of_mem _ (List.mem_append_left _ (List.mem_of_getElem? (i := 1) rfl))), (fun _ h => absurd h List.not_mem_nil)⟩)⟩)⟩)⟩) (kGV _ _ _ _) (fun _ h => List.mem_cons_of_mem _ (List.mem_append_right _ (List.mem_append_right _ (List.mem_append_left _ h)))) gw_s_look10x) rfl rfl rfl ⟨rfl, hd_X10_look⟩ ⟨(Nat.le_of_ble_eq_true rfl), (Nat.le_of_ble_eq_true rfl)⟩) (kW_V kT_blind kT_give (va_recv hKc hPc (ci := 10) (q0 := 0) rfl rfl) hPc hKc hDc) rfl rfl hl.1 rfl (lv_room (Nat.le_of_ble_eq_true rfl)) dX10_takes_9 ⟨(Nat.le_of_ble_eq_true rfl), (Nat.le_of_ble_eq_true rfl)⟩) hS (fun q _ h => hFc q h) hFc (fun r_3 => kU2 (fun a1_4 ch_5 t H_6 locs ht hvm hw hB hz1 hk1 hS => ?_))
  try dsimp only at hw
  have hPD : kPD dC dI A [(jM, .inr (10, [(v0 : Value), (v1 : Value), (v2 : Value), (v3 : Value), .ref lt, .ref tx, (v6 : Value), (v7 : Value), (v8 : Value), .int (nI (be)), .int (nI (en)), .int (nI (a1_4)), .int (-1), (v13 : Value), (v14 : Value), (v15 : Value), .ref q6, .ref q7, (v18 : Value), (v19 : Value), (v20 : Value), (v21 : Value), (v22 : Value), (v23 : Value), (v24 : Value), (v25 : Value), (v26 : Value), (v27 : Value), (v28 : Value), (v29 : Value), (v30 : Value), (v31 : Value), (v32 : Value), (v33 : Value), (v34 : Value), (v35 : Value), (v36 : Value), (v37 : Value), (v38 : Value), (v39 : Value), (v40 : Value), (v41 : Value), (v42 : Value), (v43 : Value), (v44 : Value), (v45 : Value), (v46 : Value), (v47 : Value), (v48 : Value), (v49 : Value), (v50 : Value), (v51 : Value)])), (tx, .inl (cT, nT, .inl gT))] H_6 := kJoinX hP hD [0, 1] rfl hk1 hFc hB.1 ht hB.2.2 rfl [some 0, some 1] rfl rfl
  obtain ⟨hP, hD⟩ := hPD
  have hw_7 := hw
  have hw_7_0 := hw_7.1
  have hw_7_1 := hw_7.2.1
  have hw_7_2 := hw_7.2.2.1
  have hw_7_3 := hw_7.2.2.2.1
  have hw_7_4 := hw_7.2.2.2.2.1
  have hw_7_5 := hw_7.2.2.2.2.2.1
  have hw_7_6 := hw_7.2.2.2.2.2.2.1
  have hw_7_7 := hw_7.2.2.2.2.2.2.2
  clear hw_7
  refine lv_iload_n hx hb dX10_takes_12 rfl (lv_at hl 1 rfl) ?_
  refine lv_icmp_eq (tgt := 21) hx hb dX10_takes_13 kc_t_13_8 (fun c_8 => ?_) (fun c_8 => ?_)
  · have hk_9 := kLr_e hw_7_0 (by omega) (k := 63) (by decide) c_8
    refine lv_aload_n hx hb dX10_takes_21 rfl (lv_at hl 0 rfl) ?_
    refine lv_dup hx hb dX10_takes_22 rfl ?_
    refine va_get (D := (dC, dI)) (ci := 10) (v := .int (nI (a1_4))) (C := RX10) (T := TX10) (N := 52) hx hb hts (fun _ h => List.mem_cons_of_mem _ (List.mem_append_right _ (List.mem_append_left _ h))) hown hK hP 0 rfl rfl 11 kc_l_11_52 (hts (.fieldLink RX10 141 "NotEndedModel" "at" "I") (List.mem_cons_of_mem _ (List.mem_append_left _ (List.mem_of_getElem? (i := 5) rfl)))) (fun _ h9 => h9) rfl dX10_takes_23 ?_
    refine lv_iconst (v := 1) hx hb dX10_takes_26 kc_i_1 ?_
    refine lv_iadd hx hb dX10_takes_27 ?_
    refine lv_topi (fun y_10 ey_10 => ?_)
    obtain rfl : y_10 = nI (a1_4 + 1) := ey_10.trans (nI_add (a1_4) (1))
    refine va_put (D := (dC, dI)) (ci := 10) (v := .int (nI (a1_4 + 1))) (ty := tyX10 11) (C := RX10) (T := TX10) (N := 52) hx hb hts (fun _ h => List.mem_cons_of_mem _ (List.mem_append_right _ (List.mem_append_left _ h))) tyX10 tyX10_ok nmX10 hown hK hP hD hS 0 rfl rfl 11 kc_l_11_52 (hts (.fieldLink RX10 141 "NotEndedModel" "at" "I") (List.mem_cons_of_mem _ (List.mem_append_left _ (List.mem_of_getElem? (i := 5) rfl)))) (fun _ h9 => h9) rfl (tyX10_ok 11 kc_l_11_52) rfl rfl (Nat.le_of_ble_eq_true rfl) dX10_takes_28 (fun H locs hP hD hS => ?_)
    have hPD : kPD dC dI A [(jM, .inr (10, [(v0 : Value), (v1 : Value), (v2 : Value), (v3 : Value), .ref lt, .ref tx, (v6 : Value), (v7 : Value), (v8 : Value), .int (nI (be)), .int (nI (en)), .int (nI (a1_4 + 1)), .int (-1), (v13 : Value), (v14 : Value), (v15 : Value), .ref q6, .ref q7, (v18 : Value), (v19 : Value), (v20 : Value), (v21 : Value), (v22 : Value), (v23 : Value), (v24 : Value), (v25 : Value), (v26 : Value), (v27 : Value), (v28 : Value), (v29 : Value), (v30 : Value), (v31 : Value), (v32 : Value), (v33 : Value), (v34 : Value), (v35 : Value), (v36 : Value), (v37 : Value), (v38 : Value), (v39 : Value), (v40 : Value), (v41 : Value), (v42 : Value), (v43 : Value), (v44 : Value), (v45 : Value), (v46 : Value), (v47 : Value), (v48 : Value), (v49 : Value), (v50 : Value), (v51 : Value)])), (tx, .inl (cT, nT, .inl gT))] H := ⟨hP, hD⟩
    obtain ⟨hP, hD⟩ := hPD
    refine lv_iconst (v := 1) hx hb dX10_takes_31 kc_i_1 ?_
    have hP9 := hP
    have hD9 := hD
    have hK9 := hK
    rw [hQ]
    exact W.zret (v := 1) hx hb hr rfl (fun t ht hW => ⟨⟨1, ((a1_4 + 1), (-1), true), rfl, ⟨rfl, by unfold kTk; rw [← hw_7_1, ← hw_7_2, if_pos (by omega)], by omega, by omega, fun _ => ⟨rfl, by omega⟩, fun z9 => absurd z9 (by decide)⟩,  by rw [ht]; exact hP9, va_K.moved hW.alike hK9, hD9⟩, hS.F ht⟩) hS.2.2 dX10_takes_32
  · have hk_11 := kLr_n hw_7_0 (by omega) (k := 63) (by decide) c_8
    refine lv_aload_n hx hb dX10_takes_16 rfl (lv_at hl 0 rfl) ?_
    have bd_12 : a1_4 ≤ en := by omega
    have bd_13 : en ≤ 1680 := by omega
    have hCu := kCut (wc := [(jM, .inr (10, [(v0 : Value), (v1 : Value), (v2 : Value), (v3 : Value), .ref lt, .ref tx, (v6 : Value), (v7 : Value), (v8 : Value), .int (nI (be)), .int (nI (en)), .int (nI (a1_4)), .int (-1), (v13 : Value), (v14 : Value), (v15 : Value), .ref q6, .ref q7, (v18 : Value), (v19 : Value), (v20 : Value), (v21 : Value), (v22 : Value), (v23 : Value), (v24 : Value), (v25 : Value), (v26 : Value), (v27 : Value), (v28 : Value), (v29 : Value), (v30 : Value), (v31 : Value), (v32 : Value), (v33 : Value), (v34 : Value), (v35 : Value), (v36 : Value), (v37 : Value), (v38 : Value), (v39 : Value), (v40 : Value), (v41 : Value), (v42 : Value), (v43 : Value), (v44 : Value), (v45 : Value), (v46 : Value), (v47 : Value), (v48 : Value), (v49 : Value), (v50 : Value), (v51 : Value)]))]) hP hD hS hA [0] rfl kc_nd_603 rfl
    have hPc := hCu.1
    have hDc := hCu.2.1
    have hFc := hCu.2.2
    have hKc := hK.sb (tys2 := []) [] rfl
    refine va_calli (va_runV (As := []) (rest := []) ⟨hx, hb, hml, hown, hts⟩ (s_fails10x l dC dI jM ((v0 : Value) : Value) ((v1 : Value) : Value) ((v2 : Value) : Value) ((v3 : Value) : Value) ((v6 : Value) : Value) ((v7 : Value) : Value) ((v8 : Value) : Value) ((v13 : Value) : Value) ((v14 : Value) : Value) ((v15 : Value) : Value) ((v18 : Value) : Value) ((v19 : Value) : Value) ((v20 : Value) : Value) ((v21 : Value) : Value) ((v22 : Value) : Value) ((v23 : Value) : Value) ((v24 : Value) : Value) ((v25 : Value) : Value) ((v26 : Value) : Value) ((v27 : Value) : Value) ((v28 : Value) : Value) ((v29 : Value) : Value) ((v30 : Value) : Value) ((v31 : Value) : Value) ((v32 : Value) : Value) ((v33 : Value) : Value) ((v34 : Value) : Value) ((v35 : Value) : Value) ((v36 : Value) : Value) ((v37 : Value) : Value) ((v38 : Value) : Value) ((v39 : Value) : Value) ((v40 : Value) : Value) ((v41 : Value) : Value) ((v42 : Value) : Value) ((v43 : Value) : Value) ((v44 : Value) : Value) ((v45 : Value) : Value) ((v46 : Value) : Value) ((v47 : Value) : Value) ((v48 : Value) : Value) ((v49 : Value) : Value) ((v50 : Value) : Value) ((v51 : Value) : Value) lt q6 q7 tx be en a1_4 bd_12 bd_13 H_6.size) (cwV 0 hts (kG (List.forall_mem_cons.mpr ⟨(List.mem_cons_of_mem _ (List.mem_append_left _ (List.mem_of_getElem? (i := 8) rfl))), (List.forall_mem_cons.mpr ⟨(List.mem_cons_of_mem _ (List.mem_append_left _ (List.mem_of_getElem? (i := 7) rfl))), (List.forall_mem_cons.mpr ⟨(List.mem_cons_of_mem _ (List.mem_append_left _ (List.mem_of_getElem? (i := 6) rfl))), (List.forall_mem_cons.mpr ⟨(List.mem_cons_of_mem _ (List.mem_append_left _ (List.mem_of_getElem? (i := 1) rfl))), (fun _ h => absurd h List.not_mem_nil)⟩)⟩)⟩)⟩) (kGV _ _ _ _) (fun _ h => List.mem_cons_of_mem _ (List.mem_append_right _ (List.mem_append_right _ (List.mem_append_right _ h)))) gw_s_fails10x) rfl rfl rfl ⟨rfl, hd_X10_fails⟩ ⟨(Nat.le_of_ble_eq_true rfl), (Nat.le_of_ble_eq_true rfl)⟩) (kW_V kT_blind kT_give (va_recv hKc hPc (ci := 10) (q0 := 0) rfl rfl) hPc hKc hDc) rfl rfl hl.1 rfl (lv_room (Nat.le_of_ble_eq_true rfl)) dX10_takes_17 ⟨(Nat.le_of_ble_eq_true rfl), (Nat.le_of_ble_eq_true rfl)⟩) hS (fun q _ h => hFc q h) hFc (fun r_14 _ t H_15 locs ht hvm hw hB hz1 hk1 hS => ?_)
    try dsimp only at hw
    have hPD : kPD dC dI A [(jM, .inr (10, [((v0 : Value) : Value), ((v1 : Value) : Value), ((v2 : Value) : Value), ((v3 : Value) : Value), .ref lt, .ref tx, ((v6 : Value) : Value), ((v7 : Value) : Value), ((v8 : Value) : Value), .int (nI (be)), .int (nI (en)), .int (nI (a1_4)), .int (nI (a1_4)), ((v13 : Value) : Value), ((v14 : Value) : Value), ((v15 : Value) : Value), .ref q6, .ref q7, ((v18 : Value) : Value), ((v19 : Value) : Value), ((v20 : Value) : Value), ((v21 : Value) : Value), ((v22 : Value) : Value), ((v23 : Value) : Value), ((v24 : Value) : Value), ((v25 : Value) : Value), ((v26 : Value) : Value), ((v27 : Value) : Value), ((v28 : Value) : Value), ((v29 : Value) : Value), ((v30 : Value) : Value), ((v31 : Value) : Value), ((v32 : Value) : Value), ((v33 : Value) : Value), ((v34 : Value) : Value), ((v35 : Value) : Value), ((v36 : Value) : Value), ((v37 : Value) : Value), ((v38 : Value) : Value), ((v39 : Value) : Value), ((v40 : Value) : Value), ((v41 : Value) : Value), ((v42 : Value) : Value), ((v43 : Value) : Value), ((v44 : Value) : Value), ((v45 : Value) : Value), ((v46 : Value) : Value), ((v47 : Value) : Value), ((v48 : Value) : Value), ((v49 : Value) : Value), ((v50 : Value) : Value), ((v51 : Value) : Value)])), (tx, .inl (cT, nT, .inl gT))] H_15 := kJoinX hP hD [0] rfl hk1 hFc hB.1 ht hB.2.2 rfl [some 0, none] rfl rfl
    obtain ⟨hP, hD⟩ := hPD
    obtain rfl : r_14 = 0 := hw
    have hP9 := hP
    have hD9 := hD
    have hK9 := hK
    rw [hQ]
    exact W.zret (v := 0) hx hb hr rfl (fun t ht hW => ⟨⟨0, (a1_4, (nI (a1_4)), false), rfl, ⟨rfl, by unfold kTk; rw [← hw_7_1, ← hw_7_2, if_neg (by omega)], by omega, by omega, fun z9 => absurd z9 (by decide), fun _ => rfl⟩,  by rw [ht]; exact hP9, va_K.moved hW.alike hK9, hD9⟩, hS.F ht⟩) hS.2.2 dX10_takes_20

def w_s_takes10x_41 : List Cond := .code yX10_takes cX10_takes 2 (some .boolean) :: ([.fieldLink RX10 150 "NotEndedModel" "fault" "I", .initialized RX10, .selects RX10 yX10_look yX10_look, .instanceMethod yX10_look, .methodLink RX10 160 yX10_look, .fieldLink RX10 141 "NotEndedModel" "at" "I", .selects RX10 yX10_fails yX10_fails, .instanceMethod yX10_fails, .methodLink RX10 156 yX10_fails] ++ (wsX100 ++ (w_s_look10x ++ (w_s_fails10x))))
theorem gw_s_takes10x_41 : (w_s_takes10x_41).all goodWord = true := kGc rfl (kGa (by decide +kernel) (kGa gw_wsX100 (kGa gw_s_look10x gw_s_fails10x)))
set_option maxHeartbeats 4000000 in
set_option maxRecDepth 100000 in
theorem s_takes10x_41 (l : Launch) (dC : Nat → ClassId) (dI : Nat → Nat → Nat) (jM : Nat) (v0 : Value) (v1 : Value) (v2 : Value) (v3 : Value) (v6 : Value) (v7 : Value) (v8 : Value) (v13 : Value) (v14 : Value) (v15 : Value) (v18 : Value) (v19 : Value) (v20 : Value) (v21 : Value) (v22 : Value) (v23 : Value) (v24 : Value) (v25 : Value) (v26 : Value) (v27 : Value) (v28 : Value) (v29 : Value) (v30 : Value) (v31 : Value) (v32 : Value) (v33 : Value) (v34 : Value) (v35 : Value) (v36 : Value) (v37 : Value) (v38 : Value) (v39 : Value) (v40 : Value) (v41 : Value) (v42 : Value) (v43 : Value) (v44 : Value) (v45 : Value) (v46 : Value) (v47 : Value) (v48 : Value) (v49 : Value) (v50 : Value) (v51 : Value) (lt : Nat) (q6 : Nat) (q7 : Nat) (tx : Nat) (cT : ClassId) (nT : Nat) (gT : Nat → Int32) (be : Nat) (en : Nat) (a : Nat) (hbe : be + en ≤ nT) (hnT : nT ≤ 1680) (ha : a ≤ en) (bt : Nat → Nat) (hbr : ∀ j : Nat, j < en → gT (be + j) = kSg (bt j)) (hb8 : ∀ j : Nat, bt j < 256) (hb1 : ∀ j : Nat, j < en → 1 ≤ bt j) (hen9 : en ≤ 120) (sz : Nat) : Met l yX10_takes w_s_takes10x_41 ({ frames := 2, cells := 0, slots := 0, locals := 120 }) (kW dC dI [.ref jM, .int 41] [(jM, .inr (10, [v0, v1, v2, v3, .ref lt, .ref tx, v6, v7, v8, .int (nI (be)), .int (nI (en)), .int (nI (a)), .int (-1), v13, v14, v15, .ref q6, .ref q7, v18, v19, v20, v21, v22, v23, v24, v25, v26, v27, v28, v29, v30, v31, v32, v33, v34, v35, v36, v37, v38, v39, v40, v41, v42, v43, v44, v45, v46, v47, v48, v49, v50, v51])), (tx, .inl (cT, nT, .inl gT))] [(cT, .byte)] kT sz) (va_Qi (fun (r : Int32) (u : Nat × Int32 × Bool) => match u with | (a1, xf, xo) => (r = kBo xo ∧ kTk bt en 41 a [] = (xo, a1, []) ∧ a ≤ a1 ∧ a1 ≤ en ∧ (xo = true → xf = -1 ∧ a < a1) ∧ (xo = false → xf = nI a1))) (fun (u : Nat × Int32 × Bool) => match u with | (a1, xf, xo) => fun t : State => kB dC dI [(jM, .inr (10, [v0, v1, v2, v3, .ref lt, .ref tx, v6, v7, v8, .int (nI (be)), .int (nI (en)), .int (nI (a1)), .int xf, v13, v14, v15, .ref q6, .ref q7, v18, v19, v20, v21, v22, v23, v24, v25, v26, v27, v28, v29, v30, v31, v32, v33, v34, v35, v36, v37, v38, v39, v40, v41, v42, v43, v44, v45, v46, v47, v48, v49, v50, v51])), (tx, .inl (cT, nT, .inl gT))] [(cT, .byte)] (va_A [(jM, .inr (10, [v0, v1, v2, v3, .ref lt, .ref tx, v6, v7, v8, .int (nI (be)), .int (nI (en)), .int (nI (a)), .int (-1), v13, v14, v15, .ref q6, .ref q7, v18, v19, v20, v21, v22, v23, v24, v25, v26, v27, v28, v29, v30, v31, v32, v33, v34, v35, v36, v37, v38, v39, v40, v41, v42, v43, v44, v45, v46, v47, v48, v49, v50, v51])), (tx, .inl (cT, nT, .inl gT))] sz) t) (va_A [(jM, .inr (10, [v0, v1, v2, v3, .ref lt, .ref tx, v6, v7, v8, .int (nI (be)), .int (nI (en)), .int (nI (a)), .int (-1), v13, v14, v15, .ref q6, .ref q7, v18, v19, v20, v21, v22, v23, v24, v25, v26, v27, v28, v29, v30, v31, v32, v33, v34, v35, v36, v37, v38, v39, v40, v41, v42, v43, v44, v45, v46, v47, v48, v49, v50, v51])), (tx, .inl (cT, nT, .inl gT))] sz)) 0 0 (va_A [(jM, .inr (10, [v0, v1, v2, v3, .ref lt, .ref tx, v6, v7, v8, .int (nI (be)), .int (nI (en)), .int (nI (a)), .int (-1), v13, v14, v15, .ref q6, .ref q7, v18, v19, v20, v21, v22, v23, v24, v25, v26, v27, v28, v29, v30, v31, v32, v33, v34, v35, v36, v37, v38, v39, v40, v41, v42, v43, v44, v45, v46, v47, v48, v49, v50, v51])), (tx, .inl (cT, nT, .inl gT))] sz) := by
  refine Met.ofW (cc := cX10_takes) (maxL := 2) (ret := (some .boolean)) (by decide) rfl ?_
  intro p e s m args below meth c s₁ B hml hv
  obtain ⟨rfl, hsz, hP, hK, hD0, hX⟩ := hv
  have hx := B.exec
  have hb := B.bytes
  have hr := B.returns
  have hts := atoms_spec (ws := w_s_takes10x_41) B.pre
  have hown : s.vm.findClass RX10 = some m.cls := findClass_of_methodNamed B.named
  have hlocks := B.notSynchronized
  subst hsz
  have hD := hD0.self (sz := s.heap.size)
  generalize hAe : va_A [(jM, .inr (10, [v0, v1, v2, v3, .ref lt, .ref tx, v6, v7, v8, .int (nI (be)), .int (nI (en)), .int (nI (a)), .int (-1), v13, v14, v15, .ref q6, .ref q7, v18, v19, v20, v21, v22, v23, v24, v25, v26, v27, v28, v29, v30, v31, v32, v33, v34, v35, v36, v37, v38, v39, v40, v41, v42, v43, v44, v45, v46, v47, v48, v49, v50, v51])), (tx, .inl (cT, nT, .inl gT))] s.heap.size = A at hD ⊢
  have hA : ∀ q : Nat, s.heap.size ≤ q → A q := fun q h => by rw [← hAe]; exact Or.inr h
  have hS : va_S A s.heap s.heap [] := va_S.rf
  have hP : va_P (dC, dI) vwCl [(jM, .inr (10, [v0, v1, v2, v3, .ref lt, .ref tx, v6, v7, v8, .int (nI (be)), .int (nI (en)), .int (nI (a)), .int (-1), v13, v14, v15, .ref q6, .ref q7, v18, v19, v20, v21, v22, v23, v24, v25, v26, v27, v28, v29, v30, v31, v32, v33, v34, v35, v36, v37, v38, v39, v40, v41, v42, v43, v44, v45, v46, v47, v48, v49, v50, v51])), (tx, .inl (cT, nT, .inl gT))] s.heap := hP
  have hl := lv_entry ([.ref jM, .int 41]) (n := 2) (Nat.le_of_ble_eq_true rfl)
  rw [lg_entry_eq]
  generalize (lg_sl ([.ref jM, .int 41]) ++ List.replicate (2 - (lg_sl ([.ref jM, .int 41])).length) Slot.unset).toArray = ls at hl ⊢
  have hl : lv_has ls 2 [(0, .ref jM), (1, .int 41)] := hl
  refine kQ (fun Q hQ => ?_)
  refine lv_aload_n hx hb dX10_takes_0 rfl (lv_at hl 0 rfl) ?_
  refine va_get (D := (dC, dI)) (ci := 10) (v := .int (-1)) (C := RX10) (T := TX10) (N := 52) hx hb hts (fun _ h => List.mem_cons_of_mem _ (List.mem_append_right _ (List.mem_append_left _ h))) hown hK hP 0 rfl rfl 12 kc_l_12_52 (hts (.fieldLink RX10 150 "NotEndedModel" "fault" "I") (List.mem_cons_of_mem _ (List.mem_append_left _ (List.mem_of_getElem? (i := 0) rfl)))) (fun _ h9 => h9) rfl dX10_takes_1 ?_
  refine lv_iconst (v := (-1)) hx hb dX10_takes_4 kc_i_m1 ?_
  refine lv_icmp_ne (tgt := 16) hx hb dX10_takes_5 kc_t_5_11 (fun c_1 => absurd (by decide) c_1) (fun c_1 => ?_)
  refine lv_aload_n hx hb dX10_takes_8 rfl (lv_at hl 0 rfl) ?_
  have bd_2 : be + en ≤ nT := by omega
  have hCu := kCut (wc := [(jM, .inr (10, [v0, v1, v2, v3, .ref lt, .ref tx, v6, v7, v8, .int (nI (be)), .int (nI (en)), .int (nI (a)), .int (-1), v13, v14, v15, .ref q6, .ref q7, v18, v19, v20, v21, v22, v23, v24, v25, v26, v27, v28, v29, v30, v31, v32, v33, v34, v35, v36, v37, v38, v39, v40, v41, v42, v43, v44, v45, v46, v47, v48, v49, v50, v51])), (tx, .inl (cT, nT, .inl gT))]) hP hD hS hA [0, 1] rfl kc_nd_434 rfl
  have hPc := hCu.1
  have hDc := hCu.2.1
  have hFc := hCu.2.2
  have hKc := hK.sb (tys2 := [(cT, .byte)]) [0] rfl
  refine va_calli (va_runV (As := []) (rest := []) ⟨hx, hb, hml, hown, hts⟩ (s_look10x l dC dI jM (v0 : Value) (v1 : Value) (v2 : Value) (v3 : Value) (v6 : Value) (v7 : Value) (v8 : Value) (.int (-1) : Value) (v13 : Value) (v14 : Value) (v15 : Value) (v18 : Value) (v19 : Value) (v20 : Value) (v21 : Value) (v22 : Value) (v23 : Value) (v24 : Value) (v25 : Value) (v26 : Value) (v27 : Value) (v28 : Value) (v29 : Value) (v30 : Value) (v31 : Value) (v32 : Value) (v33 : Value) (v34 : Value) (v35 : Value) (v36 : Value) (v37 : Value) (v38 : Value) (v39 : Value) (v40 : Value) (v41 : Value) (v42 : Value) (v43 : Value) (v44 : Value) (v45 : Value) (v46 : Value) (v47 : Value) (v48 : Value) (v49 : Value) (v50 : Value) (v51 : Value) lt q6 q7 tx cT nT gT be en a bd_2 hnT ha bt hbr hb8 hb1 hen9 s.heap.size) (cwV 0 hts (kG (List.forall_mem_cons.mpr ⟨(List.mem_cons_of_mem _ (List.mem_append_left _ (List.mem_of_getElem? (i := 4) rfl))), (List.forall_mem_cons.mpr ⟨(List.mem_cons_of_mem _ (List.mem_append_left _ (List.mem_of_getElem? (i := 3) rfl))), (List.forall_mem_cons.mpr ⟨(List.mem_cons_of_mem _ (List.mem_append_left _ (List.mem_of_getElem? (i := 2) rfl))), (List.forall_mem_cons.mpr ⟨(List.mem_cons_of_mem _ (List.mem_append_left _ (List.mem_of_getElem? (i := 1) rfl))), (fun _ h => absurd h List.not_mem_nil)⟩)⟩)⟩)⟩) (kGV _ _ _ _) (fun _ h => List.mem_cons_of_mem _ (List.mem_append_right _ (List.mem_append_right _ (List.mem_append_left _ h)))) gw_s_look10x) rfl rfl rfl ⟨rfl, hd_X10_look⟩ ⟨(Nat.le_of_ble_eq_true rfl), (Nat.le_of_ble_eq_true rfl)⟩) (kW_V kT_blind kT_give (va_recv hKc hPc (ci := 10) (q0 := 0) rfl rfl) hPc hKc hDc) rfl rfl hl.1 rfl (lv_room (Nat.le_of_ble_eq_true rfl)) dX10_takes_9 ⟨(Nat.le_of_ble_eq_true rfl), (Nat.le_of_ble_eq_true rfl)⟩) hS (fun q _ h => hFc q h) hFc (fun r_3 => kU2 (fun a1_4 ch_5 t H_6 locs ht hvm hw hB hz1 hk1 hS => ?_))
  try dsimp only at hw
  have hPD : kPD dC dI A [(jM, .inr (10, [(v0 : Value), (v1 : Value), (v2 : Value), (v3 : Value), .ref lt, .ref tx, (v6 : Value), (v7 : Value), (v8 : Value), .int (nI (be)), .int (nI (en)), .int (nI (a1_4)), .int (-1), (v13 : Value), (v14 : Value), (v15 : Value), .ref q6, .ref q7, (v18 : Value), (v19 : Value), (v20 : Value), (v21 : Value), (v22 : Value), (v23 : Value), (v24 : Value), (v25 : Value), (v26 : Value), (v27 : Value), (v28 : Value), (v29 : Value), (v30 : Value), (v31 : Value), (v32 : Value), (v33 : Value), (v34 : Value), (v35 : Value), (v36 : Value), (v37 : Value), (v38 : Value), (v39 : Value), (v40 : Value), (v41 : Value), (v42 : Value), (v43 : Value), (v44 : Value), (v45 : Value), (v46 : Value), (v47 : Value), (v48 : Value), (v49 : Value), (v50 : Value), (v51 : Value)])), (tx, .inl (cT, nT, .inl gT))] H_6 := kJoinX hP hD [0, 1] rfl hk1 hFc hB.1 ht hB.2.2 rfl [some 0, some 1] rfl rfl
  obtain ⟨hP, hD⟩ := hPD
  have hw_7 := hw
  have hw_7_0 := hw_7.1
  have hw_7_1 := hw_7.2.1
  have hw_7_2 := hw_7.2.2.1
  have hw_7_3 := hw_7.2.2.2.1
  have hw_7_4 := hw_7.2.2.2.2.1
  have hw_7_5 := hw_7.2.2.2.2.2.1
  have hw_7_6 := hw_7.2.2.2.2.2.2.1
  have hw_7_7 := hw_7.2.2.2.2.2.2.2
  clear hw_7
  refine lv_iload_n hx hb dX10_takes_12 rfl (lv_at hl 1 rfl) ?_
  refine lv_icmp_eq (tgt := 21) hx hb dX10_takes_13 kc_t_13_8 (fun c_8 => ?_) (fun c_8 => ?_)
  · have hk_9 := kLr_e hw_7_0 (by omega) (k := 41) (by decide) c_8
    refine lv_aload_n hx hb dX10_takes_21 rfl (lv_at hl 0 rfl) ?_
    refine lv_dup hx hb dX10_takes_22 rfl ?_
    refine va_get (D := (dC, dI)) (ci := 10) (v := .int (nI (a1_4))) (C := RX10) (T := TX10) (N := 52) hx hb hts (fun _ h => List.mem_cons_of_mem _ (List.mem_append_right _ (List.mem_append_left _ h))) hown hK hP 0 rfl rfl 11 kc_l_11_52 (hts (.fieldLink RX10 141 "NotEndedModel" "at" "I") (List.mem_cons_of_mem _ (List.mem_append_left _ (List.mem_of_getElem? (i := 5) rfl)))) (fun _ h9 => h9) rfl dX10_takes_23 ?_
    refine lv_iconst (v := 1) hx hb dX10_takes_26 kc_i_1 ?_
    refine lv_iadd hx hb dX10_takes_27 ?_
    refine lv_topi (fun y_10 ey_10 => ?_)
    obtain rfl : y_10 = nI (a1_4 + 1) := ey_10.trans (nI_add (a1_4) (1))
    refine va_put (D := (dC, dI)) (ci := 10) (v := .int (nI (a1_4 + 1))) (ty := tyX10 11) (C := RX10) (T := TX10) (N := 52) hx hb hts (fun _ h => List.mem_cons_of_mem _ (List.mem_append_right _ (List.mem_append_left _ h))) tyX10 tyX10_ok nmX10 hown hK hP hD hS 0 rfl rfl 11 kc_l_11_52 (hts (.fieldLink RX10 141 "NotEndedModel" "at" "I") (List.mem_cons_of_mem _ (List.mem_append_left _ (List.mem_of_getElem? (i := 5) rfl)))) (fun _ h9 => h9) rfl (tyX10_ok 11 kc_l_11_52) rfl rfl (Nat.le_of_ble_eq_true rfl) dX10_takes_28 (fun H locs hP hD hS => ?_)
    have hPD : kPD dC dI A [(jM, .inr (10, [(v0 : Value), (v1 : Value), (v2 : Value), (v3 : Value), .ref lt, .ref tx, (v6 : Value), (v7 : Value), (v8 : Value), .int (nI (be)), .int (nI (en)), .int (nI (a1_4 + 1)), .int (-1), (v13 : Value), (v14 : Value), (v15 : Value), .ref q6, .ref q7, (v18 : Value), (v19 : Value), (v20 : Value), (v21 : Value), (v22 : Value), (v23 : Value), (v24 : Value), (v25 : Value), (v26 : Value), (v27 : Value), (v28 : Value), (v29 : Value), (v30 : Value), (v31 : Value), (v32 : Value), (v33 : Value), (v34 : Value), (v35 : Value), (v36 : Value), (v37 : Value), (v38 : Value), (v39 : Value), (v40 : Value), (v41 : Value), (v42 : Value), (v43 : Value), (v44 : Value), (v45 : Value), (v46 : Value), (v47 : Value), (v48 : Value), (v49 : Value), (v50 : Value), (v51 : Value)])), (tx, .inl (cT, nT, .inl gT))] H := ⟨hP, hD⟩
    obtain ⟨hP, hD⟩ := hPD
    refine lv_iconst (v := 1) hx hb dX10_takes_31 kc_i_1 ?_
    have hP9 := hP
    have hD9 := hD
    have hK9 := hK
    rw [hQ]
    exact W.zret (v := 1) hx hb hr rfl (fun t ht hW => ⟨⟨1, ((a1_4 + 1), (-1), true), rfl, ⟨rfl, by unfold kTk; rw [← hw_7_1, ← hw_7_2, if_pos (by omega)], by omega, by omega, fun _ => ⟨rfl, by omega⟩, fun z9 => absurd z9 (by decide)⟩,  by rw [ht]; exact hP9, va_K.moved hW.alike hK9, hD9⟩, hS.F ht⟩) hS.2.2 dX10_takes_32
  · have hk_11 := kLr_n hw_7_0 (by omega) (k := 41) (by decide) c_8
    refine lv_aload_n hx hb dX10_takes_16 rfl (lv_at hl 0 rfl) ?_
    have bd_12 : a1_4 ≤ en := by omega
    have bd_13 : en ≤ 1680 := by omega
    have hCu := kCut (wc := [(jM, .inr (10, [(v0 : Value), (v1 : Value), (v2 : Value), (v3 : Value), .ref lt, .ref tx, (v6 : Value), (v7 : Value), (v8 : Value), .int (nI (be)), .int (nI (en)), .int (nI (a1_4)), .int (-1), (v13 : Value), (v14 : Value), (v15 : Value), .ref q6, .ref q7, (v18 : Value), (v19 : Value), (v20 : Value), (v21 : Value), (v22 : Value), (v23 : Value), (v24 : Value), (v25 : Value), (v26 : Value), (v27 : Value), (v28 : Value), (v29 : Value), (v30 : Value), (v31 : Value), (v32 : Value), (v33 : Value), (v34 : Value), (v35 : Value), (v36 : Value), (v37 : Value), (v38 : Value), (v39 : Value), (v40 : Value), (v41 : Value), (v42 : Value), (v43 : Value), (v44 : Value), (v45 : Value), (v46 : Value), (v47 : Value), (v48 : Value), (v49 : Value), (v50 : Value), (v51 : Value)]))]) hP hD hS hA [0] rfl kc_nd_603 rfl
    have hPc := hCu.1
    have hDc := hCu.2.1
    have hFc := hCu.2.2
    have hKc := hK.sb (tys2 := []) [] rfl
    refine va_calli (va_runV (As := []) (rest := []) ⟨hx, hb, hml, hown, hts⟩ (s_fails10x l dC dI jM ((v0 : Value) : Value) ((v1 : Value) : Value) ((v2 : Value) : Value) ((v3 : Value) : Value) ((v6 : Value) : Value) ((v7 : Value) : Value) ((v8 : Value) : Value) ((v13 : Value) : Value) ((v14 : Value) : Value) ((v15 : Value) : Value) ((v18 : Value) : Value) ((v19 : Value) : Value) ((v20 : Value) : Value) ((v21 : Value) : Value) ((v22 : Value) : Value) ((v23 : Value) : Value) ((v24 : Value) : Value) ((v25 : Value) : Value) ((v26 : Value) : Value) ((v27 : Value) : Value) ((v28 : Value) : Value) ((v29 : Value) : Value) ((v30 : Value) : Value) ((v31 : Value) : Value) ((v32 : Value) : Value) ((v33 : Value) : Value) ((v34 : Value) : Value) ((v35 : Value) : Value) ((v36 : Value) : Value) ((v37 : Value) : Value) ((v38 : Value) : Value) ((v39 : Value) : Value) ((v40 : Value) : Value) ((v41 : Value) : Value) ((v42 : Value) : Value) ((v43 : Value) : Value) ((v44 : Value) : Value) ((v45 : Value) : Value) ((v46 : Value) : Value) ((v47 : Value) : Value) ((v48 : Value) : Value) ((v49 : Value) : Value) ((v50 : Value) : Value) ((v51 : Value) : Value) lt q6 q7 tx be en a1_4 bd_12 bd_13 H_6.size) (cwV 0 hts (kG (List.forall_mem_cons.mpr ⟨(List.mem_cons_of_mem _ (List.mem_append_left _ (List.mem_of_getElem? (i := 8) rfl))), (List.forall_mem_cons.mpr ⟨(List.mem_cons_of_mem _ (List.mem_append_left _ (List.mem_of_getElem? (i := 7) rfl))), (List.forall_mem_cons.mpr ⟨(List.mem_cons_of_mem _ (List.mem_append_left _ (List.mem_of_getElem? (i := 6) rfl))), (List.forall_mem_cons.mpr ⟨(List.mem_cons_of_mem _ (List.mem_append_left _ (List.mem_of_getElem? (i := 1) rfl))), (fun _ h => absurd h List.not_mem_nil)⟩)⟩)⟩)⟩) (kGV _ _ _ _) (fun _ h => List.mem_cons_of_mem _ (List.mem_append_right _ (List.mem_append_right _ (List.mem_append_right _ h)))) gw_s_fails10x) rfl rfl rfl ⟨rfl, hd_X10_fails⟩ ⟨(Nat.le_of_ble_eq_true rfl), (Nat.le_of_ble_eq_true rfl)⟩) (kW_V kT_blind kT_give (va_recv hKc hPc (ci := 10) (q0 := 0) rfl rfl) hPc hKc hDc) rfl rfl hl.1 rfl (lv_room (Nat.le_of_ble_eq_true rfl)) dX10_takes_17 ⟨(Nat.le_of_ble_eq_true rfl), (Nat.le_of_ble_eq_true rfl)⟩) hS (fun q _ h => hFc q h) hFc (fun r_14 _ t H_15 locs ht hvm hw hB hz1 hk1 hS => ?_)
    try dsimp only at hw
    have hPD : kPD dC dI A [(jM, .inr (10, [((v0 : Value) : Value), ((v1 : Value) : Value), ((v2 : Value) : Value), ((v3 : Value) : Value), .ref lt, .ref tx, ((v6 : Value) : Value), ((v7 : Value) : Value), ((v8 : Value) : Value), .int (nI (be)), .int (nI (en)), .int (nI (a1_4)), .int (nI (a1_4)), ((v13 : Value) : Value), ((v14 : Value) : Value), ((v15 : Value) : Value), .ref q6, .ref q7, ((v18 : Value) : Value), ((v19 : Value) : Value), ((v20 : Value) : Value), ((v21 : Value) : Value), ((v22 : Value) : Value), ((v23 : Value) : Value), ((v24 : Value) : Value), ((v25 : Value) : Value), ((v26 : Value) : Value), ((v27 : Value) : Value), ((v28 : Value) : Value), ((v29 : Value) : Value), ((v30 : Value) : Value), ((v31 : Value) : Value), ((v32 : Value) : Value), ((v33 : Value) : Value), ((v34 : Value) : Value), ((v35 : Value) : Value), ((v36 : Value) : Value), ((v37 : Value) : Value), ((v38 : Value) : Value), ((v39 : Value) : Value), ((v40 : Value) : Value), ((v41 : Value) : Value), ((v42 : Value) : Value), ((v43 : Value) : Value), ((v44 : Value) : Value), ((v45 : Value) : Value), ((v46 : Value) : Value), ((v47 : Value) : Value), ((v48 : Value) : Value), ((v49 : Value) : Value), ((v50 : Value) : Value), ((v51 : Value) : Value)])), (tx, .inl (cT, nT, .inl gT))] H_15 := kJoinX hP hD [0] rfl hk1 hFc hB.1 ht hB.2.2 rfl [some 0, none] rfl rfl
    obtain ⟨hP, hD⟩ := hPD
    obtain rfl : r_14 = 0 := hw
    have hP9 := hP
    have hD9 := hD
    have hK9 := hK
    rw [hQ]
    exact W.zret (v := 0) hx hb hr rfl (fun t ht hW => ⟨⟨0, (a1_4, (nI (a1_4)), false), rfl, ⟨rfl, by unfold kTk; rw [← hw_7_1, ← hw_7_2, if_neg (by omega)], by omega, by omega, fun z9 => absurd z9 (by decide), fun _ => rfl⟩,  by rw [ht]; exact hP9, va_K.moved hW.alike hK9, hD9⟩, hS.F ht⟩) hS.2.2 dX10_takes_20

def w_s_takes10x_93 : List Cond := .code yX10_takes cX10_takes 2 (some .boolean) :: ([.fieldLink RX10 150 "NotEndedModel" "fault" "I", .initialized RX10, .selects RX10 yX10_look yX10_look, .instanceMethod yX10_look, .methodLink RX10 160 yX10_look, .fieldLink RX10 141 "NotEndedModel" "at" "I", .selects RX10 yX10_fails yX10_fails, .instanceMethod yX10_fails, .methodLink RX10 156 yX10_fails] ++ (wsX100 ++ (w_s_look10x ++ (w_s_fails10x))))
theorem gw_s_takes10x_93 : (w_s_takes10x_93).all goodWord = true := kGc rfl (kGa (by decide +kernel) (kGa gw_wsX100 (kGa gw_s_look10x gw_s_fails10x)))
set_option maxHeartbeats 4000000 in
set_option maxRecDepth 100000 in
theorem s_takes10x_93 (l : Launch) (dC : Nat → ClassId) (dI : Nat → Nat → Nat) (jM : Nat) (v0 : Value) (v1 : Value) (v2 : Value) (v3 : Value) (v6 : Value) (v7 : Value) (v8 : Value) (v13 : Value) (v14 : Value) (v15 : Value) (v18 : Value) (v19 : Value) (v20 : Value) (v21 : Value) (v22 : Value) (v23 : Value) (v24 : Value) (v25 : Value) (v26 : Value) (v27 : Value) (v28 : Value) (v29 : Value) (v30 : Value) (v31 : Value) (v32 : Value) (v33 : Value) (v34 : Value) (v35 : Value) (v36 : Value) (v37 : Value) (v38 : Value) (v39 : Value) (v40 : Value) (v41 : Value) (v42 : Value) (v43 : Value) (v44 : Value) (v45 : Value) (v46 : Value) (v47 : Value) (v48 : Value) (v49 : Value) (v50 : Value) (v51 : Value) (lt : Nat) (q6 : Nat) (q7 : Nat) (tx : Nat) (cT : ClassId) (nT : Nat) (gT : Nat → Int32) (be : Nat) (en : Nat) (a : Nat) (hbe : be + en ≤ nT) (hnT : nT ≤ 1680) (ha : a ≤ en) (bt : Nat → Nat) (hbr : ∀ j : Nat, j < en → gT (be + j) = kSg (bt j)) (hb8 : ∀ j : Nat, bt j < 256) (hb1 : ∀ j : Nat, j < en → 1 ≤ bt j) (hen9 : en ≤ 120) (sz : Nat) : Met l yX10_takes w_s_takes10x_93 ({ frames := 2, cells := 0, slots := 0, locals := 120 }) (kW dC dI [.ref jM, .int 93] [(jM, .inr (10, [v0, v1, v2, v3, .ref lt, .ref tx, v6, v7, v8, .int (nI (be)), .int (nI (en)), .int (nI (a)), .int (-1), v13, v14, v15, .ref q6, .ref q7, v18, v19, v20, v21, v22, v23, v24, v25, v26, v27, v28, v29, v30, v31, v32, v33, v34, v35, v36, v37, v38, v39, v40, v41, v42, v43, v44, v45, v46, v47, v48, v49, v50, v51])), (tx, .inl (cT, nT, .inl gT))] [(cT, .byte)] kT sz) (va_Qi (fun (r : Int32) (u : Nat × Int32 × Bool) => match u with | (a1, xf, xo) => (r = kBo xo ∧ kTk bt en 93 a [] = (xo, a1, []) ∧ a ≤ a1 ∧ a1 ≤ en ∧ (xo = true → xf = -1 ∧ a < a1) ∧ (xo = false → xf = nI a1))) (fun (u : Nat × Int32 × Bool) => match u with | (a1, xf, xo) => fun t : State => kB dC dI [(jM, .inr (10, [v0, v1, v2, v3, .ref lt, .ref tx, v6, v7, v8, .int (nI (be)), .int (nI (en)), .int (nI (a1)), .int xf, v13, v14, v15, .ref q6, .ref q7, v18, v19, v20, v21, v22, v23, v24, v25, v26, v27, v28, v29, v30, v31, v32, v33, v34, v35, v36, v37, v38, v39, v40, v41, v42, v43, v44, v45, v46, v47, v48, v49, v50, v51])), (tx, .inl (cT, nT, .inl gT))] [(cT, .byte)] (va_A [(jM, .inr (10, [v0, v1, v2, v3, .ref lt, .ref tx, v6, v7, v8, .int (nI (be)), .int (nI (en)), .int (nI (a)), .int (-1), v13, v14, v15, .ref q6, .ref q7, v18, v19, v20, v21, v22, v23, v24, v25, v26, v27, v28, v29, v30, v31, v32, v33, v34, v35, v36, v37, v38, v39, v40, v41, v42, v43, v44, v45, v46, v47, v48, v49, v50, v51])), (tx, .inl (cT, nT, .inl gT))] sz) t) (va_A [(jM, .inr (10, [v0, v1, v2, v3, .ref lt, .ref tx, v6, v7, v8, .int (nI (be)), .int (nI (en)), .int (nI (a)), .int (-1), v13, v14, v15, .ref q6, .ref q7, v18, v19, v20, v21, v22, v23, v24, v25, v26, v27, v28, v29, v30, v31, v32, v33, v34, v35, v36, v37, v38, v39, v40, v41, v42, v43, v44, v45, v46, v47, v48, v49, v50, v51])), (tx, .inl (cT, nT, .inl gT))] sz)) 0 0 (va_A [(jM, .inr (10, [v0, v1, v2, v3, .ref lt, .ref tx, v6, v7, v8, .int (nI (be)), .int (nI (en)), .int (nI (a)), .int (-1), v13, v14, v15, .ref q6, .ref q7, v18, v19, v20, v21, v22, v23, v24, v25, v26, v27, v28, v29, v30, v31, v32, v33, v34, v35, v36, v37, v38, v39, v40, v41, v42, v43, v44, v45, v46, v47, v48, v49, v50, v51])), (tx, .inl (cT, nT, .inl gT))] sz) := by
  refine Met.ofW (cc := cX10_takes) (maxL := 2) (ret := (some .boolean)) (by decide) rfl ?_
  intro p e s m args below meth c s₁ B hml hv
  obtain ⟨rfl, hsz, hP, hK, hD0, hX⟩ := hv
  have hx := B.exec
  have hb := B.bytes
  have hr := B.returns
  have hts := atoms_spec (ws := w_s_takes10x_93) B.pre
  have hown : s.vm.findClass RX10 = some m.cls := findClass_of_methodNamed B.named
  have hlocks := B.notSynchronized
  subst hsz
  have hD := hD0.self (sz := s.heap.size)
  generalize hAe : va_A [(jM, .inr (10, [v0, v1, v2, v3, .ref lt, .ref tx, v6, v7, v8, .int (nI (be)), .int (nI (en)), .int (nI (a)), .int (-1), v13, v14, v15, .ref q6, .ref q7, v18, v19, v20, v21, v22, v23, v24, v25, v26, v27, v28, v29, v30, v31, v32, v33, v34, v35, v36, v37, v38, v39, v40, v41, v42, v43, v44, v45, v46, v47, v48, v49, v50, v51])), (tx, .inl (cT, nT, .inl gT))] s.heap.size = A at hD ⊢
  have hA : ∀ q : Nat, s.heap.size ≤ q → A q := fun q h => by rw [← hAe]; exact Or.inr h
  have hS : va_S A s.heap s.heap [] := va_S.rf
  have hP : va_P (dC, dI) vwCl [(jM, .inr (10, [v0, v1, v2, v3, .ref lt, .ref tx, v6, v7, v8, .int (nI (be)), .int (nI (en)), .int (nI (a)), .int (-1), v13, v14, v15, .ref q6, .ref q7, v18, v19, v20, v21, v22, v23, v24, v25, v26, v27, v28, v29, v30, v31, v32, v33, v34, v35, v36, v37, v38, v39, v40, v41, v42, v43, v44, v45, v46, v47, v48, v49, v50, v51])), (tx, .inl (cT, nT, .inl gT))] s.heap := hP
  have hl := lv_entry ([.ref jM, .int 93]) (n := 2) (Nat.le_of_ble_eq_true rfl)
  rw [lg_entry_eq]
  generalize (lg_sl ([.ref jM, .int 93]) ++ List.replicate (2 - (lg_sl ([.ref jM, .int 93])).length) Slot.unset).toArray = ls at hl ⊢
  have hl : lv_has ls 2 [(0, .ref jM), (1, .int 93)] := hl
  refine kQ (fun Q hQ => ?_)
  refine lv_aload_n hx hb dX10_takes_0 rfl (lv_at hl 0 rfl) ?_
  refine va_get (D := (dC, dI)) (ci := 10) (v := .int (-1)) (C := RX10) (T := TX10) (N := 52) hx hb hts (fun _ h => List.mem_cons_of_mem _ (List.mem_append_right _ (List.mem_append_left _ h))) hown hK hP 0 rfl rfl 12 kc_l_12_52 (hts (.fieldLink RX10 150 "NotEndedModel" "fault" "I") (List.mem_cons_of_mem _ (List.mem_append_left _ (List.mem_of_getElem? (i := 0) rfl)))) (fun _ h9 => h9) rfl dX10_takes_1 ?_
  refine lv_iconst (v := (-1)) hx hb dX10_takes_4 kc_i_m1 ?_
  refine lv_icmp_ne (tgt := 16) hx hb dX10_takes_5 kc_t_5_11 (fun c_1 => absurd (by decide) c_1) (fun c_1 => ?_)
  refine lv_aload_n hx hb dX10_takes_8 rfl (lv_at hl 0 rfl) ?_
  have bd_2 : be + en ≤ nT := by omega
  have hCu := kCut (wc := [(jM, .inr (10, [v0, v1, v2, v3, .ref lt, .ref tx, v6, v7, v8, .int (nI (be)), .int (nI (en)), .int (nI (a)), .int (-1), v13, v14, v15, .ref q6, .ref q7, v18, v19, v20, v21, v22, v23, v24, v25, v26, v27, v28, v29, v30, v31, v32, v33, v34, v35, v36, v37, v38, v39, v40, v41, v42, v43, v44, v45, v46, v47, v48, v49, v50, v51])), (tx, .inl (cT, nT, .inl gT))]) hP hD hS hA [0, 1] rfl kc_nd_434 rfl
  have hPc := hCu.1
  have hDc := hCu.2.1
  have hFc := hCu.2.2
  have hKc := hK.sb (tys2 := [(cT, .byte)]) [0] rfl
  refine va_calli (va_runV (As := []) (rest := []) ⟨hx, hb, hml, hown, hts⟩ (s_look10x l dC dI jM (v0 : Value) (v1 : Value) (v2 : Value) (v3 : Value) (v6 : Value) (v7 : Value) (v8 : Value) (.int (-1) : Value) (v13 : Value) (v14 : Value) (v15 : Value) (v18 : Value) (v19 : Value) (v20 : Value) (v21 : Value) (v22 : Value) (v23 : Value) (v24 : Value) (v25 : Value) (v26 : Value) (v27 : Value) (v28 : Value) (v29 : Value) (v30 : Value) (v31 : Value) (v32 : Value) (v33 : Value) (v34 : Value) (v35 : Value) (v36 : Value) (v37 : Value) (v38 : Value) (v39 : Value) (v40 : Value) (v41 : Value) (v42 : Value) (v43 : Value) (v44 : Value) (v45 : Value) (v46 : Value) (v47 : Value) (v48 : Value) (v49 : Value) (v50 : Value) (v51 : Value) lt q6 q7 tx cT nT gT be en a bd_2 hnT ha bt hbr hb8 hb1 hen9 s.heap.size) (cwV 0 hts (kG (List.forall_mem_cons.mpr ⟨(List.mem_cons_of_mem _ (List.mem_append_left _ (List.mem_of_getElem? (i := 4) rfl))), (List.forall_mem_cons.mpr ⟨(List.mem_cons_of_mem _ (List.mem_append_left _ (List.mem_of_getElem? (i := 3) rfl))), (List.forall_mem_cons.mpr ⟨(List.mem_cons_of_mem _ (List.mem_append_left _ (List.mem_of_getElem? (i := 2) rfl))), (List.forall_mem_cons.mpr ⟨(List.mem_cons_of_mem _ (List.mem_append_left _ (List.mem_of_getElem? (i := 1) rfl))), (fun _ h => absurd h List.not_mem_nil)⟩)⟩)⟩)⟩) (kGV _ _ _ _) (fun _ h => List.mem_cons_of_mem _ (List.mem_append_right _ (List.mem_append_right _ (List.mem_append_left _ h)))) gw_s_look10x) rfl rfl rfl ⟨rfl, hd_X10_look⟩ ⟨(Nat.le_of_ble_eq_true rfl), (Nat.le_of_ble_eq_true rfl)⟩) (kW_V kT_blind kT_give (va_recv hKc hPc (ci := 10) (q0 := 0) rfl rfl) hPc hKc hDc) rfl rfl hl.1 rfl (lv_room (Nat.le_of_ble_eq_true rfl)) dX10_takes_9 ⟨(Nat.le_of_ble_eq_true rfl), (Nat.le_of_ble_eq_true rfl)⟩) hS (fun q _ h => hFc q h) hFc (fun r_3 => kU2 (fun a1_4 ch_5 t H_6 locs ht hvm hw hB hz1 hk1 hS => ?_))
  try dsimp only at hw
  have hPD : kPD dC dI A [(jM, .inr (10, [(v0 : Value), (v1 : Value), (v2 : Value), (v3 : Value), .ref lt, .ref tx, (v6 : Value), (v7 : Value), (v8 : Value), .int (nI (be)), .int (nI (en)), .int (nI (a1_4)), .int (-1), (v13 : Value), (v14 : Value), (v15 : Value), .ref q6, .ref q7, (v18 : Value), (v19 : Value), (v20 : Value), (v21 : Value), (v22 : Value), (v23 : Value), (v24 : Value), (v25 : Value), (v26 : Value), (v27 : Value), (v28 : Value), (v29 : Value), (v30 : Value), (v31 : Value), (v32 : Value), (v33 : Value), (v34 : Value), (v35 : Value), (v36 : Value), (v37 : Value), (v38 : Value), (v39 : Value), (v40 : Value), (v41 : Value), (v42 : Value), (v43 : Value), (v44 : Value), (v45 : Value), (v46 : Value), (v47 : Value), (v48 : Value), (v49 : Value), (v50 : Value), (v51 : Value)])), (tx, .inl (cT, nT, .inl gT))] H_6 := kJoinX hP hD [0, 1] rfl hk1 hFc hB.1 ht hB.2.2 rfl [some 0, some 1] rfl rfl
  obtain ⟨hP, hD⟩ := hPD
  have hw_7 := hw
  have hw_7_0 := hw_7.1
  have hw_7_1 := hw_7.2.1
  have hw_7_2 := hw_7.2.2.1
  have hw_7_3 := hw_7.2.2.2.1
  have hw_7_4 := hw_7.2.2.2.2.1
  have hw_7_5 := hw_7.2.2.2.2.2.1
  have hw_7_6 := hw_7.2.2.2.2.2.2.1
  have hw_7_7 := hw_7.2.2.2.2.2.2.2
  clear hw_7
  refine lv_iload_n hx hb dX10_takes_12 rfl (lv_at hl 1 rfl) ?_
  refine lv_icmp_eq (tgt := 21) hx hb dX10_takes_13 kc_t_13_8 (fun c_8 => ?_) (fun c_8 => ?_)
  · have hk_9 := kLr_e hw_7_0 (by omega) (k := 93) (by decide) c_8
    refine lv_aload_n hx hb dX10_takes_21 rfl (lv_at hl 0 rfl) ?_
    refine lv_dup hx hb dX10_takes_22 rfl ?_
    refine va_get (D := (dC, dI)) (ci := 10) (v := .int (nI (a1_4))) (C := RX10) (T := TX10) (N := 52) hx hb hts (fun _ h => List.mem_cons_of_mem _ (List.mem_append_right _ (List.mem_append_left _ h))) hown hK hP 0 rfl rfl 11 kc_l_11_52 (hts (.fieldLink RX10 141 "NotEndedModel" "at" "I") (List.mem_cons_of_mem _ (List.mem_append_left _ (List.mem_of_getElem? (i := 5) rfl)))) (fun _ h9 => h9) rfl dX10_takes_23 ?_
    refine lv_iconst (v := 1) hx hb dX10_takes_26 kc_i_1 ?_
    refine lv_iadd hx hb dX10_takes_27 ?_
    refine lv_topi (fun y_10 ey_10 => ?_)
    obtain rfl : y_10 = nI (a1_4 + 1) := ey_10.trans (nI_add (a1_4) (1))
    refine va_put (D := (dC, dI)) (ci := 10) (v := .int (nI (a1_4 + 1))) (ty := tyX10 11) (C := RX10) (T := TX10) (N := 52) hx hb hts (fun _ h => List.mem_cons_of_mem _ (List.mem_append_right _ (List.mem_append_left _ h))) tyX10 tyX10_ok nmX10 hown hK hP hD hS 0 rfl rfl 11 kc_l_11_52 (hts (.fieldLink RX10 141 "NotEndedModel" "at" "I") (List.mem_cons_of_mem _ (List.mem_append_left _ (List.mem_of_getElem? (i := 5) rfl)))) (fun _ h9 => h9) rfl (tyX10_ok 11 kc_l_11_52) rfl rfl (Nat.le_of_ble_eq_true rfl) dX10_takes_28 (fun H locs hP hD hS => ?_)
    have hPD : kPD dC dI A [(jM, .inr (10, [(v0 : Value), (v1 : Value), (v2 : Value), (v3 : Value), .ref lt, .ref tx, (v6 : Value), (v7 : Value), (v8 : Value), .int (nI (be)), .int (nI (en)), .int (nI (a1_4 + 1)), .int (-1), (v13 : Value), (v14 : Value), (v15 : Value), .ref q6, .ref q7, (v18 : Value), (v19 : Value), (v20 : Value), (v21 : Value), (v22 : Value), (v23 : Value), (v24 : Value), (v25 : Value), (v26 : Value), (v27 : Value), (v28 : Value), (v29 : Value), (v30 : Value), (v31 : Value), (v32 : Value), (v33 : Value), (v34 : Value), (v35 : Value), (v36 : Value), (v37 : Value), (v38 : Value), (v39 : Value), (v40 : Value), (v41 : Value), (v42 : Value), (v43 : Value), (v44 : Value), (v45 : Value), (v46 : Value), (v47 : Value), (v48 : Value), (v49 : Value), (v50 : Value), (v51 : Value)])), (tx, .inl (cT, nT, .inl gT))] H := ⟨hP, hD⟩
    obtain ⟨hP, hD⟩ := hPD
    refine lv_iconst (v := 1) hx hb dX10_takes_31 kc_i_1 ?_
    have hP9 := hP
    have hD9 := hD
    have hK9 := hK
    rw [hQ]
    exact W.zret (v := 1) hx hb hr rfl (fun t ht hW => ⟨⟨1, ((a1_4 + 1), (-1), true), rfl, ⟨rfl, by unfold kTk; rw [← hw_7_1, ← hw_7_2, if_pos (by omega)], by omega, by omega, fun _ => ⟨rfl, by omega⟩, fun z9 => absurd z9 (by decide)⟩,  by rw [ht]; exact hP9, va_K.moved hW.alike hK9, hD9⟩, hS.F ht⟩) hS.2.2 dX10_takes_32
  · have hk_11 := kLr_n hw_7_0 (by omega) (k := 93) (by decide) c_8
    refine lv_aload_n hx hb dX10_takes_16 rfl (lv_at hl 0 rfl) ?_
    have bd_12 : a1_4 ≤ en := by omega
    have bd_13 : en ≤ 1680 := by omega
    have hCu := kCut (wc := [(jM, .inr (10, [(v0 : Value), (v1 : Value), (v2 : Value), (v3 : Value), .ref lt, .ref tx, (v6 : Value), (v7 : Value), (v8 : Value), .int (nI (be)), .int (nI (en)), .int (nI (a1_4)), .int (-1), (v13 : Value), (v14 : Value), (v15 : Value), .ref q6, .ref q7, (v18 : Value), (v19 : Value), (v20 : Value), (v21 : Value), (v22 : Value), (v23 : Value), (v24 : Value), (v25 : Value), (v26 : Value), (v27 : Value), (v28 : Value), (v29 : Value), (v30 : Value), (v31 : Value), (v32 : Value), (v33 : Value), (v34 : Value), (v35 : Value), (v36 : Value), (v37 : Value), (v38 : Value), (v39 : Value), (v40 : Value), (v41 : Value), (v42 : Value), (v43 : Value), (v44 : Value), (v45 : Value), (v46 : Value), (v47 : Value), (v48 : Value), (v49 : Value), (v50 : Value), (v51 : Value)]))]) hP hD hS hA [0] rfl kc_nd_603 rfl
    have hPc := hCu.1
    have hDc := hCu.2.1
    have hFc := hCu.2.2
    have hKc := hK.sb (tys2 := []) [] rfl
    refine va_calli (va_runV (As := []) (rest := []) ⟨hx, hb, hml, hown, hts⟩ (s_fails10x l dC dI jM ((v0 : Value) : Value) ((v1 : Value) : Value) ((v2 : Value) : Value) ((v3 : Value) : Value) ((v6 : Value) : Value) ((v7 : Value) : Value) ((v8 : Value) : Value) ((v13 : Value) : Value) ((v14 : Value) : Value) ((v15 : Value) : Value) ((v18 : Value) : Value) ((v19 : Value) : Value) ((v20 : Value) : Value) ((v21 : Value) : Value) ((v22 : Value) : Value) ((v23 : Value) : Value) ((v24 : Value) : Value) ((v25 : Value) : Value) ((v26 : Value) : Value) ((v27 : Value) : Value) ((v28 : Value) : Value) ((v29 : Value) : Value) ((v30 : Value) : Value) ((v31 : Value) : Value) ((v32 : Value) : Value) ((v33 : Value) : Value) ((v34 : Value) : Value) ((v35 : Value) : Value) ((v36 : Value) : Value) ((v37 : Value) : Value) ((v38 : Value) : Value) ((v39 : Value) : Value) ((v40 : Value) : Value) ((v41 : Value) : Value) ((v42 : Value) : Value) ((v43 : Value) : Value) ((v44 : Value) : Value) ((v45 : Value) : Value) ((v46 : Value) : Value) ((v47 : Value) : Value) ((v48 : Value) : Value) ((v49 : Value) : Value) ((v50 : Value) : Value) ((v51 : Value) : Value) lt q6 q7 tx be en a1_4 bd_12 bd_13 H_6.size) (cwV 0 hts (kG (List.forall_mem_cons.mpr ⟨(List.mem_cons_of_mem _ (List.mem_append_left _ (List.mem_of_getElem? (i := 8) rfl))), (List.forall_mem_cons.mpr ⟨(List.mem_cons_of_mem _ (List.mem_append_left _ (List.mem_of_getElem? (i := 7) rfl))), (List.forall_mem_cons.mpr ⟨(List.mem_cons_of_mem _ (List.mem_append_left _ (List.mem_of_getElem? (i := 6) rfl))), (List.forall_mem_cons.mpr ⟨(List.mem_cons_of_mem _ (List.mem_append_left _ (List.mem_of_getElem? (i := 1) rfl))), (fun _ h => absurd h List.not_mem_nil)⟩)⟩)⟩)⟩) (kGV _ _ _ _) (fun _ h => List.mem_cons_of_mem _ (List.mem_append_right _ (List.mem_append_right _ (List.mem_append_right _ h)))) gw_s_fails10x) rfl rfl rfl ⟨rfl, hd_X10_fails⟩ ⟨(Nat.le_of_ble_eq_true rfl), (Nat.le_of_ble_eq_true rfl)⟩) (kW_V kT_blind kT_give (va_recv hKc hPc (ci := 10) (q0 := 0) rfl rfl) hPc hKc hDc) rfl rfl hl.1 rfl (lv_room (Nat.le_of_ble_eq_true rfl)) dX10_takes_17 ⟨(Nat.le_of_ble_eq_true rfl), (Nat.le_of_ble_eq_true rfl)⟩) hS (fun q _ h => hFc q h) hFc (fun r_14 _ t H_15 locs ht hvm hw hB hz1 hk1 hS => ?_)
    try dsimp only at hw
    have hPD : kPD dC dI A [(jM, .inr (10, [((v0 : Value) : Value), ((v1 : Value) : Value), ((v2 : Value) : Value), ((v3 : Value) : Value), .ref lt, .ref tx, ((v6 : Value) : Value), ((v7 : Value) : Value), ((v8 : Value) : Value), .int (nI (be)), .int (nI (en)), .int (nI (a1_4)), .int (nI (a1_4)), ((v13 : Value) : Value), ((v14 : Value) : Value), ((v15 : Value) : Value), .ref q6, .ref q7, ((v18 : Value) : Value), ((v19 : Value) : Value), ((v20 : Value) : Value), ((v21 : Value) : Value), ((v22 : Value) : Value), ((v23 : Value) : Value), ((v24 : Value) : Value), ((v25 : Value) : Value), ((v26 : Value) : Value), ((v27 : Value) : Value), ((v28 : Value) : Value), ((v29 : Value) : Value), ((v30 : Value) : Value), ((v31 : Value) : Value), ((v32 : Value) : Value), ((v33 : Value) : Value), ((v34 : Value) : Value), ((v35 : Value) : Value), ((v36 : Value) : Value), ((v37 : Value) : Value), ((v38 : Value) : Value), ((v39 : Value) : Value), ((v40 : Value) : Value), ((v41 : Value) : Value), ((v42 : Value) : Value), ((v43 : Value) : Value), ((v44 : Value) : Value), ((v45 : Value) : Value), ((v46 : Value) : Value), ((v47 : Value) : Value), ((v48 : Value) : Value), ((v49 : Value) : Value), ((v50 : Value) : Value), ((v51 : Value) : Value)])), (tx, .inl (cT, nT, .inl gT))] H_15 := kJoinX hP hD [0] rfl hk1 hFc hB.1 ht hB.2.2 rfl [some 0, none] rfl rfl
    obtain ⟨hP, hD⟩ := hPD
    obtain rfl : r_14 = 0 := hw
    have hP9 := hP
    have hD9 := hD
    have hK9 := hK
    rw [hQ]
    exact W.zret (v := 0) hx hb hr rfl (fun t ht hW => ⟨⟨0, (a1_4, (nI (a1_4)), false), rfl, ⟨rfl, by unfold kTk; rw [← hw_7_1, ← hw_7_2, if_neg (by omega)], by omega, by omega, fun z9 => absurd z9 (by decide), fun _ => rfl⟩,  by rw [ht]; exact hP9, va_K.moved hW.alike hK9, hD9⟩, hS.F ht⟩) hS.2.2 dX10_takes_20

def w_s_fails10f : List Cond := .code yX10_fails cX10_fails 1 (some .boolean) :: ([.fieldLink RX10 150 "NotEndedModel" "fault" "I"] ++ (wsX100))
theorem gw_s_fails10f : (w_s_fails10f).all goodWord = true := kGc rfl (kGa (by decide +kernel) gw_wsX100)
set_option maxHeartbeats 4000000 in
set_option maxRecDepth 100000 in
theorem s_fails10f (l : Launch) (dC : Nat → ClassId) (dI : Nat → Nat → Nat) (jM : Nat) (v0 : Value) (v1 : Value) (v2 : Value) (v3 : Value) (v6 : Value) (v7 : Value) (v8 : Value) (v13 : Value) (v14 : Value) (v15 : Value) (v18 : Value) (v19 : Value) (v20 : Value) (v21 : Value) (v22 : Value) (v23 : Value) (v24 : Value) (v25 : Value) (v26 : Value) (v27 : Value) (v28 : Value) (v29 : Value) (v30 : Value) (v31 : Value) (v32 : Value) (v33 : Value) (v34 : Value) (v35 : Value) (v36 : Value) (v37 : Value) (v38 : Value) (v39 : Value) (v40 : Value) (v41 : Value) (v42 : Value) (v43 : Value) (v44 : Value) (v45 : Value) (v46 : Value) (v47 : Value) (v48 : Value) (v49 : Value) (v50 : Value) (v51 : Value) (lt : Nat) (q6 : Nat) (q7 : Nat) (tx : Nat) (be : Nat) (en : Nat) (a : Nat) (ha : a ≤ en) (hen : en ≤ 1680) (fp : Nat) (hfp : fp ≤ 120) (sz : Nat) : Met l yX10_fails w_s_fails10f ({ frames := 1, cells := 0, slots := 0, locals := 60 }) (kW dC dI [.ref jM] [(jM, .inr (10, [v0, v1, v2, v3, .ref lt, .ref tx, v6, v7, v8, .int (nI (be)), .int (nI (en)), .int (nI (a)), .int (nI (fp)), v13, v14, v15, .ref q6, .ref q7, v18, v19, v20, v21, v22, v23, v24, v25, v26, v27, v28, v29, v30, v31, v32, v33, v34, v35, v36, v37, v38, v39, v40, v41, v42, v43, v44, v45, v46, v47, v48, v49, v50, v51]))] [] kT sz) (va_Qi (fun (r : Int32) (_ : Unit) => r = 0) (fun (_ : Unit) => fun t : State => kB dC dI [(jM, .inr (10, [v0, v1, v2, v3, .ref lt, .ref tx, v6, v7, v8, .int (nI (be)), .int (nI (en)), .int (nI (a)), .int (nI (fp)), v13, v14, v15, .ref q6, .ref q7, v18, v19, v20, v21, v22, v23, v24, v25, v26, v27, v28, v29, v30, v31, v32, v33, v34, v35, v36, v37, v38, v39, v40, v41, v42, v43, v44, v45, v46, v47, v48, v49, v50, v51]))] [] (va_A [(jM, .inr (10, [v0, v1, v2, v3, .ref lt, .ref tx, v6, v7, v8, .int (nI (be)), .int (nI (en)), .int (nI (a)), .int (nI (fp)), v13, v14, v15, .ref q6, .ref q7, v18, v19, v20, v21, v22, v23, v24, v25, v26, v27, v28, v29, v30, v31, v32, v33, v34, v35, v36, v37, v38, v39, v40, v41, v42, v43, v44, v45, v46, v47, v48, v49, v50, v51]))] sz) t) (va_A [(jM, .inr (10, [v0, v1, v2, v3, .ref lt, .ref tx, v6, v7, v8, .int (nI (be)), .int (nI (en)), .int (nI (a)), .int (nI (fp)), v13, v14, v15, .ref q6, .ref q7, v18, v19, v20, v21, v22, v23, v24, v25, v26, v27, v28, v29, v30, v31, v32, v33, v34, v35, v36, v37, v38, v39, v40, v41, v42, v43, v44, v45, v46, v47, v48, v49, v50, v51]))] sz)) 0 0 (va_A [(jM, .inr (10, [v0, v1, v2, v3, .ref lt, .ref tx, v6, v7, v8, .int (nI (be)), .int (nI (en)), .int (nI (a)), .int (nI (fp)), v13, v14, v15, .ref q6, .ref q7, v18, v19, v20, v21, v22, v23, v24, v25, v26, v27, v28, v29, v30, v31, v32, v33, v34, v35, v36, v37, v38, v39, v40, v41, v42, v43, v44, v45, v46, v47, v48, v49, v50, v51]))] sz) := by
  refine Met.ofW (cc := cX10_fails) (maxL := 1) (ret := (some .boolean)) (by decide) rfl ?_
  intro p e s m args below meth c s₁ B hml hv
  obtain ⟨rfl, hsz, hP, hK, hD0, hX⟩ := hv
  have hx := B.exec
  have hb := B.bytes
  have hr := B.returns
  have hts := atoms_spec (ws := w_s_fails10f) B.pre
  have hown : s.vm.findClass RX10 = some m.cls := findClass_of_methodNamed B.named
  have hlocks := B.notSynchronized
  subst hsz
  have hD := hD0.self (sz := s.heap.size)
  generalize hAe : va_A [(jM, .inr (10, [v0, v1, v2, v3, .ref lt, .ref tx, v6, v7, v8, .int (nI (be)), .int (nI (en)), .int (nI (a)), .int (nI (fp)), v13, v14, v15, .ref q6, .ref q7, v18, v19, v20, v21, v22, v23, v24, v25, v26, v27, v28, v29, v30, v31, v32, v33, v34, v35, v36, v37, v38, v39, v40, v41, v42, v43, v44, v45, v46, v47, v48, v49, v50, v51]))] s.heap.size = A at hD ⊢
  have hA : ∀ q : Nat, s.heap.size ≤ q → A q := fun q h => by rw [← hAe]; exact Or.inr h
  have hS : va_S A s.heap s.heap [] := va_S.rf
  have hP : va_P (dC, dI) vwCl [(jM, .inr (10, [v0, v1, v2, v3, .ref lt, .ref tx, v6, v7, v8, .int (nI (be)), .int (nI (en)), .int (nI (a)), .int (nI (fp)), v13, v14, v15, .ref q6, .ref q7, v18, v19, v20, v21, v22, v23, v24, v25, v26, v27, v28, v29, v30, v31, v32, v33, v34, v35, v36, v37, v38, v39, v40, v41, v42, v43, v44, v45, v46, v47, v48, v49, v50, v51]))] s.heap := hP
  have hl := lv_entry ([.ref jM]) (n := 1) (Nat.le_of_ble_eq_true rfl)
  rw [lg_entry_eq]
  generalize (lg_sl ([.ref jM]) ++ List.replicate (1 - (lg_sl ([.ref jM])).length) Slot.unset).toArray = ls at hl ⊢
  have hl : lv_has ls 1 [(0, .ref jM)] := hl
  refine kQ (fun Q hQ => ?_)
  refine lv_aload_n hx hb dX10_fails_0 rfl (lv_at hl 0 rfl) ?_
  refine va_get (D := (dC, dI)) (ci := 10) (v := .int (nI (fp))) (C := RX10) (T := TX10) (N := 52) hx hb hts (fun _ h => List.mem_cons_of_mem _ (List.mem_append_right _ h)) hown hK hP 0 rfl rfl 12 kc_l_12_52 (hts (.fieldLink RX10 150 "NotEndedModel" "fault" "I") (List.mem_cons_of_mem _ (List.mem_append_left _ (List.mem_of_getElem? (i := 0) rfl)))) (fun _ h9 => h9) rfl dX10_fails_1 ?_
  refine lv_iconst (v := (-1)) hx hb dX10_fails_4 kc_i_m1 ?_
  refine lv_icmp_ne (tgt := 16) hx hb dX10_fails_5 kc_t_5_11 (fun c_1 => ?_) (fun c_1 => absurd c_1 (kNeM (n := fp) (by omega)))
  refine lv_iconst (v := 0) hx hb dX10_fails_16 kc_i_0 ?_
  have hP9 := hP
  have hD9 := hD
  have hK9 := hK
  rw [hQ]
  exact W.zret (v := 0) hx hb hr rfl (fun t ht hW => ⟨⟨0, (), rfl, rfl,  by rw [ht]; exact hP9, va_K.moved hW.alike hK9, hD9⟩, hS.F ht⟩) hS.2.2 dX10_fails_17

def w_s_takes10f : List Cond := .code yX10_takes cX10_takes 2 (some .boolean) :: ([.fieldLink RX10 150 "NotEndedModel" "fault" "I", .initialized RX10, .selects RX10 yX10_fails yX10_fails, .instanceMethod yX10_fails, .methodLink RX10 156 yX10_fails] ++ (wsX100 ++ (w_s_fails10f)))
theorem gw_s_takes10f : (w_s_takes10f).all goodWord = true := kGc rfl (kGa (by decide +kernel) (kGa gw_wsX100 gw_s_fails10f))
set_option maxHeartbeats 4000000 in
set_option maxRecDepth 100000 in
theorem s_takes10f (l : Launch) (dC : Nat → ClassId) (dI : Nat → Nat → Nat) (jM : Nat) (v0 : Value) (v1 : Value) (v2 : Value) (v3 : Value) (v6 : Value) (v7 : Value) (v8 : Value) (v13 : Value) (v14 : Value) (v15 : Value) (v18 : Value) (v19 : Value) (v20 : Value) (v21 : Value) (v22 : Value) (v23 : Value) (v24 : Value) (v25 : Value) (v26 : Value) (v27 : Value) (v28 : Value) (v29 : Value) (v30 : Value) (v31 : Value) (v32 : Value) (v33 : Value) (v34 : Value) (v35 : Value) (v36 : Value) (v37 : Value) (v38 : Value) (v39 : Value) (v40 : Value) (v41 : Value) (v42 : Value) (v43 : Value) (v44 : Value) (v45 : Value) (v46 : Value) (v47 : Value) (v48 : Value) (v49 : Value) (v50 : Value) (v51 : Value) (lt : Nat) (q6 : Nat) (q7 : Nat) (tx : Nat) (be : Nat) (en : Nat) (a : Nat) (ha : a ≤ en) (hen : en ≤ 1680) (fp : Nat) (hfp : fp ≤ 120) (p0 : Int32) (sz : Nat) : Met l yX10_takes w_s_takes10f ({ frames := 2, cells := 0, slots := 0, locals := 120 }) (kW dC dI [.ref jM, .int p0] [(jM, .inr (10, [v0, v1, v2, v3, .ref lt, .ref tx, v6, v7, v8, .int (nI (be)), .int (nI (en)), .int (nI (a)), .int (nI (fp)), v13, v14, v15, .ref q6, .ref q7, v18, v19, v20, v21, v22, v23, v24, v25, v26, v27, v28, v29, v30, v31, v32, v33, v34, v35, v36, v37, v38, v39, v40, v41, v42, v43, v44, v45, v46, v47, v48, v49, v50, v51]))] [] kT sz) (va_Qi (fun (r : Int32) (_ : Unit) => r = 0) (fun (_ : Unit) => fun t : State => kB dC dI [(jM, .inr (10, [v0, v1, v2, v3, .ref lt, .ref tx, v6, v7, v8, .int (nI (be)), .int (nI (en)), .int (nI (a)), .int (nI (fp)), v13, v14, v15, .ref q6, .ref q7, v18, v19, v20, v21, v22, v23, v24, v25, v26, v27, v28, v29, v30, v31, v32, v33, v34, v35, v36, v37, v38, v39, v40, v41, v42, v43, v44, v45, v46, v47, v48, v49, v50, v51]))] [] (va_A [(jM, .inr (10, [v0, v1, v2, v3, .ref lt, .ref tx, v6, v7, v8, .int (nI (be)), .int (nI (en)), .int (nI (a)), .int (nI (fp)), v13, v14, v15, .ref q6, .ref q7, v18, v19, v20, v21, v22, v23, v24, v25, v26, v27, v28, v29, v30, v31, v32, v33, v34, v35, v36, v37, v38, v39, v40, v41, v42, v43, v44, v45, v46, v47, v48, v49, v50, v51]))] sz) t) (va_A [(jM, .inr (10, [v0, v1, v2, v3, .ref lt, .ref tx, v6, v7, v8, .int (nI (be)), .int (nI (en)), .int (nI (a)), .int (nI (fp)), v13, v14, v15, .ref q6, .ref q7, v18, v19, v20, v21, v22, v23, v24, v25, v26, v27, v28, v29, v30, v31, v32, v33, v34, v35, v36, v37, v38, v39, v40, v41, v42, v43, v44, v45, v46, v47, v48, v49, v50, v51]))] sz)) 0 0 (va_A [(jM, .inr (10, [v0, v1, v2, v3, .ref lt, .ref tx, v6, v7, v8, .int (nI (be)), .int (nI (en)), .int (nI (a)), .int (nI (fp)), v13, v14, v15, .ref q6, .ref q7, v18, v19, v20, v21, v22, v23, v24, v25, v26, v27, v28, v29, v30, v31, v32, v33, v34, v35, v36, v37, v38, v39, v40, v41, v42, v43, v44, v45, v46, v47, v48, v49, v50, v51]))] sz) := by
  refine Met.ofW (cc := cX10_takes) (maxL := 2) (ret := (some .boolean)) (by decide) rfl ?_
  intro p e s m args below meth c s₁ B hml hv
  obtain ⟨rfl, hsz, hP, hK, hD0, hX⟩ := hv
  have hx := B.exec
  have hb := B.bytes
  have hr := B.returns
  have hts := atoms_spec (ws := w_s_takes10f) B.pre
  have hown : s.vm.findClass RX10 = some m.cls := findClass_of_methodNamed B.named
  have hlocks := B.notSynchronized
  subst hsz
  have hD := hD0.self (sz := s.heap.size)
  generalize hAe : va_A [(jM, .inr (10, [v0, v1, v2, v3, .ref lt, .ref tx, v6, v7, v8, .int (nI (be)), .int (nI (en)), .int (nI (a)), .int (nI (fp)), v13, v14, v15, .ref q6, .ref q7, v18, v19, v20, v21, v22, v23, v24, v25, v26, v27, v28, v29, v30, v31, v32, v33, v34, v35, v36, v37, v38, v39, v40, v41, v42, v43, v44, v45, v46, v47, v48, v49, v50, v51]))] s.heap.size = A at hD ⊢
  have hA : ∀ q : Nat, s.heap.size ≤ q → A q := fun q h => by rw [← hAe]; exact Or.inr h
  have hS : va_S A s.heap s.heap [] := va_S.rf
  have hP : va_P (dC, dI) vwCl [(jM, .inr (10, [v0, v1, v2, v3, .ref lt, .ref tx, v6, v7, v8, .int (nI (be)), .int (nI (en)), .int (nI (a)), .int (nI (fp)), v13, v14, v15, .ref q6, .ref q7, v18, v19, v20, v21, v22, v23, v24, v25, v26, v27, v28, v29, v30, v31, v32, v33, v34, v35, v36, v37, v38, v39, v40, v41, v42, v43, v44, v45, v46, v47, v48, v49, v50, v51]))] s.heap := hP
  have hl := lv_entry ([.ref jM, .int p0]) (n := 2) (Nat.le_of_ble_eq_true rfl)
  rw [lg_entry_eq]
  generalize (lg_sl ([.ref jM, .int p0]) ++ List.replicate (2 - (lg_sl ([.ref jM, .int p0])).length) Slot.unset).toArray = ls at hl ⊢
  have hl : lv_has ls 2 [(0, .ref jM), (1, .int p0)] := hl
  refine kQ (fun Q hQ => ?_)
  refine lv_aload_n hx hb dX10_takes_0 rfl (lv_at hl 0 rfl) ?_
  refine va_get (D := (dC, dI)) (ci := 10) (v := .int (nI (fp))) (C := RX10) (T := TX10) (N := 52) hx hb hts (fun _ h => List.mem_cons_of_mem _ (List.mem_append_right _ (List.mem_append_left _ h))) hown hK hP 0 rfl rfl 12 kc_l_12_52 (hts (.fieldLink RX10 150 "NotEndedModel" "fault" "I") (List.mem_cons_of_mem _ (List.mem_append_left _ (List.mem_of_getElem? (i := 0) rfl)))) (fun _ h9 => h9) rfl dX10_takes_1 ?_
  refine lv_iconst (v := (-1)) hx hb dX10_takes_4 kc_i_m1 ?_
  refine lv_icmp_ne (tgt := 16) hx hb dX10_takes_5 kc_t_5_11 (fun c_1 => ?_) (fun c_1 => absurd c_1 (kNeM (n := fp) (by omega)))
  refine lv_aload_n hx hb dX10_takes_16 rfl (lv_at hl 0 rfl) ?_
  have hCu := kCut (wc := [(jM, .inr (10, [v0, v1, v2, v3, .ref lt, .ref tx, v6, v7, v8, .int (nI (be)), .int (nI (en)), .int (nI (a)), .int (nI (fp)), v13, v14, v15, .ref q6, .ref q7, v18, v19, v20, v21, v22, v23, v24, v25, v26, v27, v28, v29, v30, v31, v32, v33, v34, v35, v36, v37, v38, v39, v40, v41, v42, v43, v44, v45, v46, v47, v48, v49, v50, v51]))]) hP hD hS hA [0] rfl kc_nd_603 rfl
  have hPc := hCu.1
  have hDc := hCu.2.1
  have hFc := hCu.2.2
  have hKc := hK.sb (tys2 := []) [] rfl
  refine va_calli (va_runV (As := []) (rest := []) ⟨hx, hb, hml, hown, hts⟩ (s_fails10f l dC dI jM (v0 : Value) (v1 : Value) (v2 : Value) (v3 : Value) (v6 : Value) (v7 : Value) (v8 : Value) (v13 : Value) (v14 : Value) (v15 : Value) (v18 : Value) (v19 : Value) (v20 : Value) (v21 : Value) (v22 : Value) (v23 : Value) (v24 : Value) (v25 : Value) (v26 : Value) (v27 : Value) (v28 : Value) (v29 : Value) (v30 : Value) (v31 : Value) (v32 : Value) (v33 : Value) (v34 : Value) (v35 : Value) (v36 : Value) (v37 : Value) (v38 : Value) (v39 : Value) (v40 : Value) (v41 : Value) (v42 : Value) (v43 : Value) (v44 : Value) (v45 : Value) (v46 : Value) (v47 : Value) (v48 : Value) (v49 : Value) (v50 : Value) (v51 : Value) lt q6 q7 tx be en a ha hen fp hfp s.heap.size) (cwV 0 hts (kG (List.forall_mem_cons.mpr ⟨(List.mem_cons_of_mem _ (List.mem_append_left _ (List.mem_of_getElem? (i := 4) rfl))), (List.forall_mem_cons.mpr ⟨(List.mem_cons_of_mem _ (List.mem_append_left _ (List.mem_of_getElem? (i := 3) rfl))), (List.forall_mem_cons.mpr ⟨(List.mem_cons_of_mem _ (List.mem_append_left _ (List.mem_of_getElem? (i := 2) rfl))), (List.forall_mem_cons.mpr ⟨(List.mem_cons_of_mem _ (List.mem_append_left _ (List.mem_of_getElem? (i := 1) rfl))), (fun _ h => absurd h List.not_mem_nil)⟩)⟩)⟩)⟩) (kGV _ _ _ _) (fun _ h => List.mem_cons_of_mem _ (List.mem_append_right _ (List.mem_append_right _ h))) gw_s_fails10f) rfl rfl rfl ⟨rfl, hd_X10_fails⟩ ⟨(Nat.le_of_ble_eq_true rfl), (Nat.le_of_ble_eq_true rfl)⟩) (kW_V kT_blind kT_give (va_recv hKc hPc (ci := 10) (q0 := 0) rfl rfl) hPc hKc hDc) rfl rfl hl.1 rfl (lv_room (Nat.le_of_ble_eq_true rfl)) dX10_takes_17 ⟨(Nat.le_of_ble_eq_true rfl), (Nat.le_of_ble_eq_true rfl)⟩) hS (fun q _ h => hFc q h) hFc (fun r_2 _ t H_3 locs ht hvm hw hB hz1 hk1 hS => ?_)
  try dsimp only at hw
  have hPD : kPD dC dI A [(jM, .inr (10, [(v0 : Value), (v1 : Value), (v2 : Value), (v3 : Value), .ref lt, .ref tx, (v6 : Value), (v7 : Value), (v8 : Value), .int (nI (be)), .int (nI (en)), .int (nI (a)), .int (nI (fp)), (v13 : Value), (v14 : Value), (v15 : Value), .ref q6, .ref q7, (v18 : Value), (v19 : Value), (v20 : Value), (v21 : Value), (v22 : Value), (v23 : Value), (v24 : Value), (v25 : Value), (v26 : Value), (v27 : Value), (v28 : Value), (v29 : Value), (v30 : Value), (v31 : Value), (v32 : Value), (v33 : Value), (v34 : Value), (v35 : Value), (v36 : Value), (v37 : Value), (v38 : Value), (v39 : Value), (v40 : Value), (v41 : Value), (v42 : Value), (v43 : Value), (v44 : Value), (v45 : Value), (v46 : Value), (v47 : Value), (v48 : Value), (v49 : Value), (v50 : Value), (v51 : Value)]))] H_3 := kJoinX hP hD [0] rfl hk1 hFc hB.1 ht hB.2.2 rfl [some 0] rfl rfl
  obtain ⟨hP, hD⟩ := hPD
  obtain rfl : r_2 = 0 := hw
  have hP9 := hP
  have hD9 := hD
  have hK9 := hK
  rw [hQ]
  exact W.zret (v := 0) hx hb hr rfl (fun t ht hW => ⟨⟨0, (), rfl, rfl,  by rw [ht]; exact hP9, va_K.moved hW.alike hK9, hD9⟩, hS.F ht⟩) hS.2.2 dX10_takes_20

def w_s_isDigit10x : List Cond := .code yX10_isDigit cX10_isDigit 1 (some .boolean) :: ([.fieldLink RX10 141 "NotEndedModel" "at" "I", .fieldLink RX10 144 "NotEndedModel" "ends" "I", .fieldLink RX10 23 "NotEndedModel" "text" "[B", .fieldLink RX10 147 "NotEndedModel" "begins" "I"] ++ (wsX100))
theorem gw_s_isDigit10x : (w_s_isDigit10x).all goodWord = true := kGc rfl (kGa (by decide +kernel) gw_wsX100)
set_option maxHeartbeats 4000000 in
set_option maxRecDepth 100000 in
theorem s_isDigit10x (l : Launch) (dC : Nat → ClassId) (dI : Nat → Nat → Nat) (jM : Nat) (v0 : Value) (v1 : Value) (v2 : Value) (v3 : Value) (v6 : Value) (v7 : Value) (v8 : Value) (v12 : Value) (v13 : Value) (v14 : Value) (v15 : Value) (v18 : Value) (v19 : Value) (v20 : Value) (v21 : Value) (v22 : Value) (v23 : Value) (v24 : Value) (v25 : Value) (v26 : Value) (v27 : Value) (v28 : Value) (v29 : Value) (v30 : Value) (v31 : Value) (v32 : Value) (v33 : Value) (v34 : Value) (v35 : Value) (v36 : Value) (v37 : Value) (v38 : Value) (v39 : Value) (v40 : Value) (v41 : Value) (v42 : Value) (v43 : Value) (v44 : Value) (v45 : Value) (v46 : Value) (v47 : Value) (v48 : Value) (v49 : Value) (v50 : Value) (v51 : Value) (lt : Nat) (q6 : Nat) (q7 : Nat) (tx : Nat) (cT : ClassId) (nT : Nat) (gT : Nat → Int32) (be : Nat) (en : Nat) (a : Nat) (hbe : be + en ≤ nT) (hnT : nT ≤ 1680) (ha : a ≤ en) (bt : Nat → Nat) (hbr : ∀ j : Nat, j < en → gT (be + j) = kSg (bt j)) (hb8 : ∀ j : Nat, bt j < 256) (hb1 : ∀ j : Nat, j < en → 1 ≤ bt j) (hen9 : en ≤ 120) : Met l yX10_isDigit w_s_isDigit10x ({ frames := 1, cells := 0, slots := 0, locals := 60 }) (kR dC dI [.ref jM] [(jM, .inr (10, [v0, v1, v2, v3, .ref lt, .ref tx, v6, v7, v8, .int (nI (be)), .int (nI (en)), .int (nI (a)), v12, v13, v14, v15, .ref q6, .ref q7, v18, v19, v20, v21, v22, v23, v24, v25, v26, v27, v28, v29, v30, v31, v32, v33, v34, v35, v36, v37, v38, v39, v40, v41, v42, v43, v44, v45, v46, v47, v48, v49, v50, v51])), (tx, .inl (cT, nT, .inl gT))] [(cT, .byte)] kT) (vp_Si (fun r : Int32 => ((r = 0 ∨ r = 1) ∧ (¬ r = 0 ↔ 48 ≤ kAt bt en a ∧ kAt bt en a ≤ 57)))) 0 0 (fun _ => False) := by
  refine Met.ofW (cc := cX10_isDigit) (maxL := 1) (ret := (some .boolean)) (by decide) rfl ?_
  intro p e s m args below meth c s₁ B hml hv
  obtain ⟨rfl, hP, hK, hX⟩ := hv
  have hx := B.exec
  have hb := B.bytes
  have hr := B.returns
  have hts := atoms_spec (ws := w_s_isDigit10x) B.pre
  have hown : s.vm.findClass RX10 = some m.cls := findClass_of_methodNamed B.named
  have hlocks := B.notSynchronized
  have hP : va_P (dC, dI) vwCl [(jM, .inr (10, [v0, v1, v2, v3, .ref lt, .ref tx, v6, v7, v8, .int (nI (be)), .int (nI (en)), .int (nI (a)), v12, v13, v14, v15, .ref q6, .ref q7, v18, v19, v20, v21, v22, v23, v24, v25, v26, v27, v28, v29, v30, v31, v32, v33, v34, v35, v36, v37, v38, v39, v40, v41, v42, v43, v44, v45, v46, v47, v48, v49, v50, v51])), (tx, .inl (cT, nT, .inl gT))] s.heap := hP
  have hl := lv_entry ([.ref jM]) (n := 1) (Nat.le_of_ble_eq_true rfl)
  rw [lg_entry_eq]
  generalize (lg_sl ([.ref jM]) ++ List.replicate (1 - (lg_sl ([.ref jM])).length) Slot.unset).toArray = ls at hl ⊢
  have hl : lv_has ls 1 [(0, .ref jM)] := hl
  refine kQ (fun Q hQ => ?_)
  refine lv_aload_n hx hb dX10_isDigit_0 rfl (lv_at hl 0 rfl) ?_
  refine va_get (D := (dC, dI)) (ci := 10) (v := .int (nI (a))) (C := RX10) (T := TX10) (N := 52) hx hb hts (fun _ h => List.mem_cons_of_mem _ (List.mem_append_right _ h)) hown hK hP 0 rfl rfl 11 kc_l_11_52 (hts (.fieldLink RX10 141 "NotEndedModel" "at" "I") (List.mem_cons_of_mem _ (List.mem_append_left _ (List.mem_of_getElem? (i := 0) rfl)))) (fun _ h9 => h9) rfl dX10_isDigit_1 ?_
  refine lv_aload_n hx hb dX10_isDigit_4 rfl (lv_at hl 0 rfl) ?_
  refine va_get (D := (dC, dI)) (ci := 10) (v := .int (nI (en))) (C := RX10) (T := TX10) (N := 52) hx hb hts (fun _ h => List.mem_cons_of_mem _ (List.mem_append_right _ h)) hown hK hP 0 rfl rfl 10 kc_l_10_52 (hts (.fieldLink RX10 144 "NotEndedModel" "ends" "I") (List.mem_cons_of_mem _ (List.mem_append_left _ (List.mem_of_getElem? (i := 1) rfl)))) (fun _ h9 => h9) rfl dX10_isDigit_5 ?_
  refine lv_icmp_ge (tgt := 53) hx hb dX10_isDigit_8 kc_t_8_45 (fun c_1 => ?_) (fun c_1 => ?_)
  · have bd_3 : en < 2147483648 := by omega
    have bd_4 : a < 2147483648 := by omega
    have hn_2 := kle (a := en) (b := a) bd_3 bd_4 c_1
    refine lv_iconst (v := 0) hx hb dX10_isDigit_53 kc_i_0 ?_
    rw [hQ]
    exact W.zret (v := 0) hx hb hr rfl (fun t ht hW => ⟨0, rfl, ⟨Or.inl rfl, ⟨fun z9 => absurd rfl z9, fun z9 => by rw [kAt_ge (by omega)] at z9; exfalso; omega⟩⟩, ht⟩) (fun _ h => nomatch h) dX10_isDigit_54
  · have bd_6 : en < 2147483648 := by omega
    have bd_7 : a < 2147483648 := by omega
    have hn_5 := knle (a := en) (b := a) bd_6 bd_7 c_1
    refine lv_aload_n hx hb dX10_isDigit_11 rfl (lv_at hl 0 rfl) ?_
    refine va_get (D := (dC, dI)) (ci := 10) (v := .ref tx) (C := RX10) (T := TX10) (N := 52) hx hb hts (fun _ h => List.mem_cons_of_mem _ (List.mem_append_right _ h)) hown hK hP 0 rfl rfl 5 kc_l_5_52 (hts (.fieldLink RX10 23 "NotEndedModel" "text" "[B") (List.mem_cons_of_mem _ (List.mem_append_left _ (List.mem_of_getElem? (i := 2) rfl)))) (fun _ h9 => h9) rfl dX10_isDigit_12 ?_
    refine lv_aload_n hx hb dX10_isDigit_15 rfl (lv_at hl 0 rfl) ?_
    refine va_get (D := (dC, dI)) (ci := 10) (v := .int (nI (be))) (C := RX10) (T := TX10) (N := 52) hx hb hts (fun _ h => List.mem_cons_of_mem _ (List.mem_append_right _ h)) hown hK hP 0 rfl rfl 9 kc_l_9_52 (hts (.fieldLink RX10 147 "NotEndedModel" "begins" "I") (List.mem_cons_of_mem _ (List.mem_append_left _ (List.mem_of_getElem? (i := 3) rfl)))) (fun _ h9 => h9) rfl dX10_isDigit_16 ?_
    refine lv_aload_n hx hb dX10_isDigit_19 rfl (lv_at hl 0 rfl) ?_
    refine va_get (D := (dC, dI)) (ci := 10) (v := .int (nI (a))) (C := RX10) (T := TX10) (N := 52) hx hb hts (fun _ h => List.mem_cons_of_mem _ (List.mem_append_right _ h)) hown hK hP 0 rfl rfl 11 kc_l_11_52 (hts (.fieldLink RX10 141 "NotEndedModel" "at" "I") (List.mem_cons_of_mem _ (List.mem_append_left _ (List.mem_of_getElem? (i := 0) rfl)))) (fun _ h9 => h9) rfl dX10_isDigit_20 ?_
    refine lv_iadd hx hb dX10_isDigit_23 ?_
    refine lv_topi (fun y_8 ey_8 => ?_)
    obtain rfl : y_8 = nI (be + a) := ey_8.trans (nI_add (be) (a))
    have bd_9 : be + a < nT := by omega
    have bd_10 : nT < 2147483648 := by omega
    refine va_bald hx hb hK hP 1 0 rfl rfl (vp_in_nI (n := be + a) (N := nT) bd_9 bd_10) dX10_isDigit_24 ?_
    refine lv_topi (fun x_11 ex_11 => ?_)
    refine lv_bipush (v := 48) hx hb dX10_isDigit_25 kc_b_48 ?_
    refine lv_icmp_lt (tgt := 53) hx hb dX10_isDigit_27 kc_t_27_26 (fun c_12 => ?_) (fun c_12 => ?_)
    · refine lv_iconst (v := 0) hx hb dX10_isDigit_53 kc_i_0 ?_
      rw [hQ]
      exact W.zret (v := 0) hx hb hr rfl (fun t ht hW => ⟨0, rfl, ⟨Or.inl rfl, ⟨fun z9 => absurd rfl z9, fun z9 => by rw [kAt_in (by omega)] at z9; exact absurd (by rw [ex_11, nI_clamp (n := be + a) (by omega), hbr a (by omega)] at c_12; exact c_12) ((kSgL (hb8 a)).mpr z9).1⟩⟩, ht⟩) (fun _ h => nomatch h) dX10_isDigit_54
    · refine lv_aload_n hx hb dX10_isDigit_30 rfl (lv_at hl 0 rfl) ?_
      refine va_get (D := (dC, dI)) (ci := 10) (v := .ref tx) (C := RX10) (T := TX10) (N := 52) hx hb hts (fun _ h => List.mem_cons_of_mem _ (List.mem_append_right _ h)) hown hK hP 0 rfl rfl 5 kc_l_5_52 (hts (.fieldLink RX10 23 "NotEndedModel" "text" "[B") (List.mem_cons_of_mem _ (List.mem_append_left _ (List.mem_of_getElem? (i := 2) rfl)))) (fun _ h9 => h9) rfl dX10_isDigit_31 ?_
      refine lv_aload_n hx hb dX10_isDigit_34 rfl (lv_at hl 0 rfl) ?_
      refine va_get (D := (dC, dI)) (ci := 10) (v := .int (nI (be))) (C := RX10) (T := TX10) (N := 52) hx hb hts (fun _ h => List.mem_cons_of_mem _ (List.mem_append_right _ h)) hown hK hP 0 rfl rfl 9 kc_l_9_52 (hts (.fieldLink RX10 147 "NotEndedModel" "begins" "I") (List.mem_cons_of_mem _ (List.mem_append_left _ (List.mem_of_getElem? (i := 3) rfl)))) (fun _ h9 => h9) rfl dX10_isDigit_35 ?_
      refine lv_aload_n hx hb dX10_isDigit_38 rfl (lv_at hl 0 rfl) ?_
      refine va_get (D := (dC, dI)) (ci := 10) (v := .int (nI (a))) (C := RX10) (T := TX10) (N := 52) hx hb hts (fun _ h => List.mem_cons_of_mem _ (List.mem_append_right _ h)) hown hK hP 0 rfl rfl 11 kc_l_11_52 (hts (.fieldLink RX10 141 "NotEndedModel" "at" "I") (List.mem_cons_of_mem _ (List.mem_append_left _ (List.mem_of_getElem? (i := 0) rfl)))) (fun _ h9 => h9) rfl dX10_isDigit_39 ?_
      refine lv_iadd hx hb dX10_isDigit_42 ?_
      refine lv_topi (fun y_13 ey_13 => ?_)
      obtain rfl : y_13 = nI (be + a) := ey_13.trans (nI_add (be) (a))
      refine va_bald hx hb hK hP 1 0 rfl rfl (vp_in_nI (n := be + a) (N := nT) bd_9 bd_10) dX10_isDigit_43 ?_
      refine lv_topi (fun x_14 ex_14 => ?_)
      refine lv_bipush (v := 57) hx hb dX10_isDigit_44 kc_b_57 ?_
      refine lv_icmp_gt (tgt := 53) hx hb dX10_isDigit_46 kc_t_46_7 (fun c_15 => ?_) (fun c_15 => ?_)
      · refine lv_iconst (v := 0) hx hb dX10_isDigit_53 kc_i_0 ?_
        rw [hQ]
        exact W.zret (v := 0) hx hb hr rfl (fun t ht hW => ⟨0, rfl, ⟨Or.inl rfl, ⟨fun z9 => absurd rfl z9, fun z9 => by rw [kAt_in (by omega)] at z9; exact absurd (by rw [ex_14, nI_clamp (n := be + a) (by omega), hbr a (by omega)] at c_15; exact c_15) ((kSgL (hb8 a)).mpr z9).2⟩⟩, ht⟩) (fun _ h => nomatch h) dX10_isDigit_54
      · refine lv_iconst (v := 1) hx hb dX10_isDigit_49 kc_i_1 ?_
        refine lv_goto (tgt := 54) hx hb dX10_isDigit_50 kc_t_50_4 ?_
        rw [hQ]
        exact W.zret (v := 1) hx hb hr rfl (fun t ht hW => ⟨1, rfl, ⟨Or.inr rfl, ⟨fun _ => by rw [kAt_in (by omega)]; exact (kSgL (hb8 a)).mp ⟨by rw [← hbr a (by omega), ← nI_clamp (n := be + a) (by omega), ← ex_11]; exact c_12, by rw [← hbr a (by omega), ← nI_clamp (n := be + a) (by omega), ← ex_14]; exact c_15⟩, fun _ => by decide⟩⟩, ht⟩) (fun _ h => nomatch h) dX10_isDigit_54

def w_s_t_char1x : List Cond := .code yJ1_charAt_3b067 cJ1_charAt_3b067 2 (some .char) :: ([.initialized RJ0, .static yJ0_checkIndex_df160, .methodLink RJ1 9 yJ0_checkIndex_df160] ++ (w_s_t_chk0))
theorem gw_s_t_char1x : (w_s_t_char1x).all goodWord = true := kGc rfl (kGa (by decide +kernel) gw_s_t_chk0)
set_option maxHeartbeats 4000000 in
set_option maxRecDepth 100000 in
theorem s_t_char1x (l : Launch) (dC : Nat → ClassId) (dI : Nat → Nat → Nat) (q : Nat) (b : Nat) (n : Nat) (g : Nat → Int32) (hn : n ≤ 8) (A : Nat → Prop) (hg : ∀ k : Nat, ∃ v : Nat, v < 128 ∧ g k = nI v) (pj : Nat) (hpj : pj < n) : Met l yJ1_charAt_3b067 w_s_t_char1x ({ frames := 3, cells := 0, slots := 0, locals := 180 }) (kR dC dI [.ref b, .int (nI (pj))] [] [] (kSt q b n g A)) (vp_Si (fun r : Int32 => (∃ v : Nat, v < 128 ∧ r = nI v ∧ g pj = nI v))) 0 0 (fun _ => False) := by
  refine Met.ofW (cc := cJ1_charAt_3b067) (maxL := 2) (ret := (some .char)) (by decide) rfl ?_
  intro p e s m args below meth c s₁ B hml hv
  obtain ⟨rfl, hP, hK, hX⟩ := hv
  have hx := B.exec
  have hb := B.bytes
  have hr := B.returns
  have hts := atoms_spec (ws := w_s_t_char1x) B.pre
  have hown : s.vm.findClass RJ1 = some m.cls := findClass_of_methodNamed B.named
  have hlocks := B.notSynchronized
  have hS : va_S A s.heap s.heap [] := va_S.rf
  have hP : va_P (dC, dI) vwCl [] s.heap := hP
  have hl := lv_entry ([.ref b, .int (nI (pj))]) (n := 2) (Nat.le_of_ble_eq_true rfl)
  rw [lg_entry_eq]
  generalize (lg_sl ([.ref b, .int (nI (pj))]) ++ List.replicate (2 - (lg_sl ([.ref b, .int (nI (pj))])).length) Slot.unset).toArray = ls at hl ⊢
  have hl : lv_has ls 2 [(0, .ref b), (1, .int (nI (pj)))] := hl
  refine kQ (fun Q hQ => ?_)
  refine lv_iload_n hx hb dJ1_charAt_3b067_0 rfl (lv_at hl 1 rfl) ?_
  refine lv_aload_n hx hb dJ1_charAt_3b067_1 rfl (lv_at hl 0 rfl) ?_
  refine va_tlen hx hb hX.2.2.2.1 hS (v := nI (n)) rfl dJ1_charAt_3b067_2 ?_
  have hPc := hP.sb (ws2 := []) [] rfl
  have hKc := hK.sb (tys2 := []) [] rfl
  refine va_csv (va_runS (As := [.int (nI (pj)), .int (nI (n))]) (rest := []) ⟨hx, hb, hml, hown, hts⟩ (s_t_chk0 l dC dI q b n g hn A hg pj hpj) (va_cwS 2 hts (kG (List.forall_mem_cons.mpr ⟨(List.mem_cons_of_mem _ (List.mem_append_left _ (List.mem_of_getElem? (i := 2) rfl))), (List.forall_mem_cons.mpr ⟨(List.mem_cons_of_mem _ (List.mem_append_left _ (List.mem_of_getElem? (i := 1) rfl))), (List.forall_mem_cons.mpr ⟨(List.mem_cons_of_mem _ (List.mem_append_left _ (List.mem_of_getElem? (i := 0) rfl))), (fun _ h => absurd h List.not_mem_nil)⟩)⟩)⟩) (kGS _ _ _) (fun _ h => List.mem_cons_of_mem _ (List.mem_append_right _ h)) gw_s_t_chk0) rfl rfl rfl hd_J0_checkIndex_df160 ⟨(Nat.le_of_ble_eq_true rfl), (Nat.le_of_ble_eq_true rfl)⟩) (kR_S kSt_blind (kSt_give hX hS) hPc hKc) rfl rfl hl.1 rfl (lv_room (Nat.le_of_ble_eq_true rfl)) dJ1_charAt_3b067_3 ⟨(Nat.le_of_ble_eq_true rfl), (Nat.le_of_ble_eq_true rfl)⟩).run (fun hw => ?_)
  refine lv_aload_n hx hb dJ1_charAt_3b067_6 rfl (lv_at hl 0 rfl) ?_
  refine lv_iload_n hx hb dJ1_charAt_3b067_7 rfl (lv_at hl 1 rfl) ?_
  refine va_tb hx hb hX.2.2.2.1 hS (vp_in_nI (n := pj) (N := n) (by omega) (by omega)) (v := .int (g (Int32.toNatClampNeg (nI (pj))))) rfl dJ1_charAt_3b067_8 ?_
  refine lv_topi (fun x_3 ex_3 => ?_)
  obtain ⟨j_4, hj_4, ej_4⟩ := hg (Int32.toNatClampNeg (nI (pj)))
  rw [ej_4] at ex_3
  subst ex_3
  refine lv_sipush (v := 255) hx hb dJ1_charAt_3b067_9 kc_s_255 ?_
  refine lv_iand hx hb dJ1_charAt_3b067_12 ?_
  refine lv_topi (fun x_5 ex_5 => ?_)
  obtain rfl : x_5 = nI (j_4) := ex_5.trans (kA255 hj_4)
  obtain ⟨x_6, ex_6⟩ : ∃ z : Int32, z = (Int32.toUInt32 (nI (j_4)) % 65536).toInt32 := ⟨_, rfl⟩
  refine lv_i2c (v := x_6) hx hb dJ1_charAt_3b067_13 ex_6.symm ?_
  obtain rfl : x_6 = nI (j_4) := ex_6.trans (kI2c hj_4)
  rw [hQ]
  exact W.zret (v := nI (j_4)) hx hb hr (kNarC hj_4) (fun t ht hW => ⟨nI (j_4), rfl, ⟨_, hj_4, rfl, by rw [← ej_4, nI_clamp (n := pj) (by omega)]⟩, ht⟩) (fun _ h => nomatch h) dJ1_charAt_3b067_14

def w_s_t_charAtx : List Cond := .code yJ0_charAt_5068e cJ0_charAt_5068e 2 (some .char) :: ([.initialized RJ0, .selects RJ0 yJ0_isLatin1_aae02 yJ0_isLatin1_aae02, .instanceMethod yJ0_isLatin1_aae02, .methodLink RJ0 492 yJ0_isLatin1_aae02, .fieldLink RJ0 9 "java/lang/String" "value" "[B", .initialized RJ1, .static yJ1_charAt_3b067, .methodLink RJ0 495 yJ1_charAt_3b067] ++ (w_s_t_latin ++ (w_s_t_char1x)))
theorem gw_s_t_charAtx : (w_s_t_charAtx).all goodWord = true := kGc rfl (kGa (by decide +kernel) (kGa gw_s_t_latin gw_s_t_char1x))
set_option maxHeartbeats 4000000 in
set_option maxRecDepth 100000 in
theorem s_t_charAtx (l : Launch) (dC : Nat → ClassId) (dI : Nat → Nat → Nat) (q : Nat) (b : Nat) (n : Nat) (g : Nat → Int32) (hn : n ≤ 8) (A : Nat → Prop) (hg : ∀ k : Nat, ∃ v : Nat, v < 128 ∧ g k = nI v) (pj : Nat) (hpj : pj < n) : Met l yJ0_charAt_5068e w_s_t_charAtx ({ frames := 4, cells := 0, slots := 0, locals := 240 }) (kR dC dI [.ref q, .int (nI (pj))] [] [] (kSt q b n g A)) (vp_Si (fun r : Int32 => (∃ v : Nat, v < 128 ∧ r = nI v ∧ g pj = nI v))) 0 0 (fun _ => False) := by
  refine Met.ofW (cc := cJ0_charAt_5068e) (maxL := 2) (ret := (some .char)) (by decide) rfl ?_
  intro p e s m args below meth c s₁ B hml hv
  obtain ⟨rfl, hP, hK, hX⟩ := hv
  have hx := B.exec
  have hb := B.bytes
  have hr := B.returns
  have hts := atoms_spec (ws := w_s_t_charAtx) B.pre
  have hown : s.vm.findClass RJ0 = some m.cls := findClass_of_methodNamed B.named
  have hlocks := B.notSynchronized
  have hS : va_S A s.heap s.heap [] := va_S.rf
  have hP : va_P (dC, dI) vwCl [] s.heap := hP
  have hl := lv_entry ([.ref q, .int (nI (pj))]) (n := 2) (Nat.le_of_ble_eq_true rfl)
  rw [lg_entry_eq]
  generalize (lg_sl ([.ref q, .int (nI (pj))]) ++ List.replicate (2 - (lg_sl ([.ref q, .int (nI (pj))])).length) Slot.unset).toArray = ls at hl ⊢
  have hl : lv_has ls 2 [(0, .ref q), (1, .int (nI (pj)))] := hl
  refine kQ (fun Q hQ => ?_)
  refine lv_aload_n hx hb dJ0_charAt_5068e_0 rfl (lv_at hl 0 rfl) ?_
  have hPc := hP.sb (ws2 := []) [] rfl
  have hKc := hK.sb (tys2 := []) [] rfl
  refine vp_callSi (va_runV (As := []) (rest := []) ⟨hx, hb, hml, hown, hts⟩ (s_t_latin l dC dI q b n g hn A) (cwV 0 hts (kG (List.forall_mem_cons.mpr ⟨(List.mem_cons_of_mem _ (List.mem_append_left _ (List.mem_of_getElem? (i := 3) rfl))), (List.forall_mem_cons.mpr ⟨(List.mem_cons_of_mem _ (List.mem_append_left _ (List.mem_of_getElem? (i := 2) rfl))), (List.forall_mem_cons.mpr ⟨(List.mem_cons_of_mem _ (List.mem_append_left _ (List.mem_of_getElem? (i := 1) rfl))), (List.forall_mem_cons.mpr ⟨(List.mem_cons_of_mem _ (List.mem_append_left _ (List.mem_of_getElem? (i := 0) rfl))), (fun _ h => absurd h List.not_mem_nil)⟩)⟩)⟩)⟩) (kGV _ _ _ _) (fun _ h => List.mem_cons_of_mem _ (List.mem_append_right _ (List.mem_append_left _ h))) gw_s_t_latin) rfl rfl rfl ⟨rfl, hd_J0_isLatin1_aae02⟩ ⟨(Nat.le_of_ble_eq_true rfl), (Nat.le_of_ble_eq_true rfl)⟩) (kR_V kSt_blind (kSt_give hX hS) (kSt_recv hX hS) hPc hKc) rfl rfl hl.1 rfl (lv_room (Nat.le_of_ble_eq_true rfl)) dJ0_charAt_5068e_1 ⟨(Nat.le_of_ble_eq_true rfl), (Nat.le_of_ble_eq_true rfl)⟩).run (fun r_1 hw => ?_)
  obtain rfl : r_1 = 1 := hw
  refine lv_if_eq (tgt := 16) hx hb dJ0_charAt_5068e_4 kc_t_4_12 (fun c_2 => absurd c_2 (by decide)) (fun c_2 => ?_)
  refine lv_aload_n hx hb dJ0_charAt_5068e_7 rfl (lv_at hl 0 rfl) ?_
  refine vk_getf hx hb hX.2.2.1 hS hown (hts (.fieldLink RJ0 9 "java/lang/String" "value" "[B") (List.mem_cons_of_mem _ (List.mem_append_left _ (List.mem_of_getElem? (i := 4) rfl)))) (fun _ h9 => h9) dJ0_charAt_5068e_8 ?_
  refine lv_iload_n hx hb dJ0_charAt_5068e_11 rfl (lv_at hl 1 rfl) ?_
  have hPc := hP.sb (ws2 := []) [] rfl
  have hKc := hK.sb (tys2 := []) [] rfl
  refine vp_callSi (va_runS (As := [.ref b, .int (nI (pj))]) (rest := []) ⟨hx, hb, hml, hown, hts⟩ (s_t_char1x l dC dI q b n g hn A hg pj hpj) (va_cwS 2 hts (kG (List.forall_mem_cons.mpr ⟨(List.mem_cons_of_mem _ (List.mem_append_left _ (List.mem_of_getElem? (i := 7) rfl))), (List.forall_mem_cons.mpr ⟨(List.mem_cons_of_mem _ (List.mem_append_left _ (List.mem_of_getElem? (i := 6) rfl))), (List.forall_mem_cons.mpr ⟨(List.mem_cons_of_mem _ (List.mem_append_left _ (List.mem_of_getElem? (i := 5) rfl))), (fun _ h => absurd h List.not_mem_nil)⟩)⟩)⟩) (kGS _ _ _) (fun _ h => List.mem_cons_of_mem _ (List.mem_append_right _ (List.mem_append_right _ h))) gw_s_t_char1x) rfl rfl rfl hd_J1_charAt_3b067 ⟨(Nat.le_of_ble_eq_true rfl), (Nat.le_of_ble_eq_true rfl)⟩) (kR_S kSt_blind (kSt_give hX hS) hPc hKc) rfl rfl hl.1 rfl (lv_room (Nat.le_of_ble_eq_true rfl)) dJ0_charAt_5068e_12 ⟨(Nat.le_of_ble_eq_true rfl), (Nat.le_of_ble_eq_true rfl)⟩).run (fun r_3 hw => ?_)
  have hw_4 := hw
  rw [hQ]
  exact W.zret (v := r_3) hx hb hr (by obtain ⟨v9, hv9, e9, _⟩ := hw_4; rw [e9]; exact kNarC hv9) (fun t ht hW => ⟨r_3, rfl, hw_4, ht⟩) (fun _ h => nomatch h) dJ0_charAt_5068e_15

def w_s_among10x : List Cond := .code yX10_isAmong cX10_isAmong 3 (some .boolean) :: ([.initialized RJ0, .selects RJ0 yJ0_length_8abf5 yJ0_length_8abf5, .instanceMethod yJ0_length_8abf5, .methodLink RX10 121 yJ0_length_8abf5, .selects RJ0 yJ0_charAt_5068e yJ0_charAt_5068e, .instanceMethod yJ0_charAt_5068e, .methodLink RX10 127 yJ0_charAt_5068e] ++ (w_s_t_length ++ (w_s_t_charAtx)))
theorem gw_s_among10x : (w_s_among10x).all goodWord = true := kGc rfl (kGa (by decide +kernel) (kGa gw_s_t_length gw_s_t_charAtx))
set_option maxHeartbeats 4000000 in
set_option maxRecDepth 100000 in
theorem s_among10x (l : Launch) (dC : Nat → ClassId) (dI : Nat → Nat → Nat) (q : Nat) (b : Nat) (n : Nat) (g : Nat → Int32) (hn : n ≤ 8) (A : Nat → Prop) (hg : ∀ k : Nat, ∃ v : Nat, v < 128 ∧ g k = nI v) (p0 : Int32) : Met l yX10_isAmong w_s_among10x ({ frames := 5, cells := 0, slots := 0, locals := 300 }) (kR dC dI [.ref q, .int p0] [] [] (kSt q b n g A)) (vp_Si (fun r : Int32 => ((¬ r = 0 ↔ kIx g n p0 < n) ∧ (¬ r = 0 → ∃ j : Nat, j < 128 ∧ p0 = nI j)))) 0 0 (fun _ => False) := by
  refine Met.ofW (cc := cX10_isAmong) (maxL := 3) (ret := (some .boolean)) (by decide) rfl ?_
  intro p e s m args below meth c s₁ B hml hv
  obtain ⟨rfl, hP, hK, hX⟩ := hv
  have hx := B.exec
  have hb := B.bytes
  have hr := B.returns
  have hts := atoms_spec (ws := w_s_among10x) B.pre
  have hown : s.vm.findClass RX10 = some m.cls := findClass_of_methodNamed B.named
  have hlocks := B.notSynchronized
  have hS : va_S A s.heap s.heap [] := va_S.rf
  have hP : va_P (dC, dI) vwCl [] s.heap := hP
  have hl := lv_entry ([.ref q, .int p0]) (n := 3) (Nat.le_of_ble_eq_true rfl)
  rw [lg_entry_eq]
  generalize (lg_sl ([.ref q, .int p0]) ++ List.replicate (3 - (lg_sl ([.ref q, .int p0])).length) Slot.unset).toArray = ls at hl ⊢
  have hl : lv_has ls 3 [(0, .ref q), (1, .int p0)] := hl
  refine kQ (fun Q hQ => ?_)
  refine lv_iconst (v := 0) hx hb dX10_isAmong_0 kc_i_0 ?_
  refine lv_istore_n hx hb dX10_isAmong_1 rfl hl kc_l_2_3 (kTo [(2, .int 0), (0, .ref q), (1, .int p0)]) (fun ls hl => ?_)
  have lp_k_1 : ∀ (n9 : Nat) (i : Nat) (ivk_1_0 : i ≤ n) (ivk_1_1 : kFd g p0 (n - i) i = kIx g n p0) (ls : Array Slot) (_ : lv_has ls 3 [(2, .int (nI (i))), (0, .ref q), (1, .int p0)]) (_ : n - i < n9), W p l e (headSpec w_s_among10x ({ frames := 5, cells := 0, slots := 0, locals := 300 })).room s m (#[.ref q, .int p0] : Array Value) below meth c s.heap [] 0 0 Q (F0 m 2 ls []) := by
    intro n9
    induction n9 with
    | zero => intro i ivk_1_0 ivk_1_1 ls hl hm9; exact absurd hm9 (Nat.not_lt_zero _)
    | succ n9 ih_k_1 =>
      intro i ivk_1_0 ivk_1_1 ls hl hm9
      refine lv_iload_n hx hb dX10_isAmong_2 rfl (lv_at hl 0 rfl) ?_
      refine lv_aload_n hx hb dX10_isAmong_3 rfl (lv_at hl 1 rfl) ?_
      have hPc := hP.sb (ws2 := []) [] rfl
      have hKc := hK.sb (tys2 := []) [] rfl
      refine vp_callSi (va_runV (As := []) (rest := [.int (nI (i))]) ⟨hx, hb, hml, hown, hts⟩ (s_t_length l dC dI q b n g hn A) (cwV 0 hts (kG (List.forall_mem_cons.mpr ⟨(List.mem_cons_of_mem _ (List.mem_append_left _ (List.mem_of_getElem? (i := 3) rfl))), (List.forall_mem_cons.mpr ⟨(List.mem_cons_of_mem _ (List.mem_append_left _ (List.mem_of_getElem? (i := 2) rfl))), (List.forall_mem_cons.mpr ⟨(List.mem_cons_of_mem _ (List.mem_append_left _ (List.mem_of_getElem? (i := 1) rfl))), (List.forall_mem_cons.mpr ⟨(List.mem_cons_of_mem _ (List.mem_append_left _ (List.mem_of_getElem? (i := 0) rfl))), (fun _ h => absurd h List.not_mem_nil)⟩)⟩)⟩)⟩) (kGV _ _ _ _) (fun _ h => List.mem_cons_of_mem _ (List.mem_append_right _ (List.mem_append_left _ h))) gw_s_t_length) rfl rfl rfl ⟨rfl, hd_J0_length_8abf5⟩ ⟨(Nat.le_of_ble_eq_true rfl), (Nat.le_of_ble_eq_true rfl)⟩) (kR_V kSt_blind (kSt_give hX hS) (kSt_recv hX hS) hPc hKc) rfl rfl hl.1 rfl (lv_room (Nat.le_of_ble_eq_true rfl)) dX10_isAmong_4 ⟨(Nat.le_of_ble_eq_true rfl), (Nat.le_of_ble_eq_true rfl)⟩).run (fun r_2 hw => ?_)
      obtain rfl : r_2 = nI (n) := hw
      refine lv_icmp_ge (tgt := 27) hx hb dX10_isAmong_7 kc_t_7_20 (fun c_3 => ?_) (fun c_3 => ?_)
      · have bd_5 : n < 2147483648 := by omega
        have bd_6 : i < 2147483648 := by omega
        have hn_4 := kle (a := n) (b := i) bd_5 bd_6 c_3
        refine lv_iconst (v := 0) hx hb dX10_isAmong_27 kc_i_0 ?_
        rw [hQ]
        exact W.zret (v := 0) hx hb hr rfl (fun t ht hW => ⟨0, rfl, ⟨⟨fun z => absurd rfl z, fun z => by rw [← ivk_1_1, show n - i = 0 by omega] at z; have z8 : i < n := z; exfalso; omega⟩, fun z => absurd rfl z⟩, ht⟩) (fun _ h => nomatch h) dX10_isAmong_28
      · have bd_8 : n < 2147483648 := by omega
        have bd_9 : i < 2147483648 := by omega
        have hn_7 := knle (a := n) (b := i) bd_8 bd_9 c_3
        refine lv_aload_n hx hb dX10_isAmong_10 rfl (lv_at hl 1 rfl) ?_
        refine lv_iload_n hx hb dX10_isAmong_11 rfl (lv_at hl 0 rfl) ?_
        have bd_10 : i < n := by omega
        have hPc := hP.sb (ws2 := []) [] rfl
        have hKc := hK.sb (tys2 := []) [] rfl
        refine vp_callSi (va_runV (As := [.int (nI (i))]) (rest := []) ⟨hx, hb, hml, hown, hts⟩ (s_t_charAtx l dC dI q b n g hn A hg i bd_10) (cwV 1 hts (kG (List.forall_mem_cons.mpr ⟨(List.mem_cons_of_mem _ (List.mem_append_left _ (List.mem_of_getElem? (i := 6) rfl))), (List.forall_mem_cons.mpr ⟨(List.mem_cons_of_mem _ (List.mem_append_left _ (List.mem_of_getElem? (i := 5) rfl))), (List.forall_mem_cons.mpr ⟨(List.mem_cons_of_mem _ (List.mem_append_left _ (List.mem_of_getElem? (i := 4) rfl))), (List.forall_mem_cons.mpr ⟨(List.mem_cons_of_mem _ (List.mem_append_left _ (List.mem_of_getElem? (i := 0) rfl))), (fun _ h => absurd h List.not_mem_nil)⟩)⟩)⟩)⟩) (kGV _ _ _ _) (fun _ h => List.mem_cons_of_mem _ (List.mem_append_right _ (List.mem_append_right _ h))) gw_s_t_charAtx) rfl rfl rfl ⟨rfl, hd_J0_charAt_5068e⟩ ⟨(Nat.le_of_ble_eq_true rfl), (Nat.le_of_ble_eq_true rfl)⟩) (kR_V kSt_blind (kSt_give hX hS) (kSt_recv hX hS) hPc hKc) rfl rfl hl.1 rfl (lv_room (Nat.le_of_ble_eq_true rfl)) dX10_isAmong_12 ⟨(Nat.le_of_ble_eq_true rfl), (Nat.le_of_ble_eq_true rfl)⟩).run (fun r_11 hw => ?_)
        have hw_12 := hw
        refine lv_iload_n hx hb dX10_isAmong_15 rfl (lv_at hl 2 rfl) ?_
        refine lv_icmp_ne (tgt := 21) hx hb dX10_isAmong_16 kc_t_16_5 (fun c_13 => ?_) (fun c_13 => ?_)
        · refine lv_iinc (v := nI (i + 1)) hx hb dX10_isAmong_21 hl (k := 0) rfl (kInc _ 1) kc_l_2_3 (kTo [(2, .int (nI (i + 1))), (0, .ref q), (1, .int p0)]) (fun ls hl => ?_)
          refine lv_goto (tgt := 2) hx hb dX10_isAmong_24 kc_t_24_m22 ?_
          exact ih_k_1 (i + 1) (by omega) (by obtain ⟨v9, hv9, e9, g9⟩ := hw_12; rw [← ivk_1_1, show n - i = (n - (i + 1)) + 1 by omega]; exact (kFd_s (fun z => c_13 (e9.trans (g9.symm.trans z)))).symm) ls (lv_sub hl [0, 1, 2] rfl) (by omega)
        · refine lv_iconst (v := 1) hx hb dX10_isAmong_19 kc_i_1 ?_
          rw [hQ]
          exact W.zret (v := 1) hx hb hr rfl (fun t ht hW => ⟨1, rfl, (by obtain ⟨v9, hv9, e9, g9⟩ := hw_12; have e8 : g i = p0 := g9.trans (e9.symm.trans c_13); exact ⟨⟨fun _ => by rw [← ivk_1_1, show n - i = (n - (i + 1)) + 1 by omega, kFd_h e8]; omega, fun _ => by decide⟩, fun _ => ⟨v9, hv9, c_13.symm.trans e9⟩⟩), ht⟩) (fun _ h => nomatch h) dX10_isAmong_20
  exact lp_k_1 (n - 0 + 1) 0 (by omega) rfl ls (lv_sub hl [0, 1, 2] rfl) (by omega)

def w_s_isSign10x : List Cond := .code yX10_isSign cX10_isSign 1 (some .boolean) :: ([])
theorem gw_s_isSign10x : (w_s_isSign10x).all goodWord = true := kGc rfl kGn
set_option maxHeartbeats 4000000 in
set_option maxRecDepth 100000 in
theorem s_isSign10x (l : Launch) (dC : Nat → ClassId) (dI : Nat → Nat → Nat) (p0 : Int32) : Met l yX10_isSign w_s_isSign10x ({ frames := 1, cells := 0, slots := 0, locals := 60 }) (kR dC dI [.int p0] [] [] kT) (vp_Si (fun r : Int32 => (¬ r = 0 ↔ p0 = 61 ∨ p0 = 60 ∨ p0 = 62))) 0 0 (fun _ => False) := by
  refine Met.ofW (cc := cX10_isSign) (maxL := 1) (ret := (some .boolean)) (by decide) rfl ?_
  intro p e s m args below meth c s₁ B hml hv
  obtain ⟨rfl, hP, hK, hX⟩ := hv
  have hx := B.exec
  have hb := B.bytes
  have hr := B.returns
  have hts := atoms_spec (ws := w_s_isSign10x) B.pre
  have hown : s.vm.findClass RX10 = some m.cls := findClass_of_methodNamed B.named
  have hlocks := B.notSynchronized
  have hP : va_P (dC, dI) vwCl [] s.heap := hP
  have hl := lv_entry ([.int p0]) (n := 1) (Nat.le_of_ble_eq_true rfl)
  rw [lg_entry_eq]
  generalize (lg_sl ([.int p0]) ++ List.replicate (1 - (lg_sl ([.int p0])).length) Slot.unset).toArray = ls at hl ⊢
  have hl : lv_has ls 1 [(0, .int p0)] := hl
  refine kQ (fun Q hQ => ?_)
  refine lv_iload_n hx hb dX10_isSign_0 rfl (lv_at hl 0 rfl) ?_
  refine lv_bipush (v := 61) hx hb dX10_isSign_1 kc_b_61 ?_
  refine lv_icmp_eq (tgt := 18) hx hb dX10_isSign_3 kc_t_3_15 (fun c_1 => ?_) (fun c_1 => ?_)
  · refine lv_iconst (v := 1) hx hb dX10_isSign_18 kc_i_1 ?_
    refine lv_goto (tgt := 23) hx hb dX10_isSign_19 kc_t_19_4 ?_
    rw [hQ]
    exact W.zret (v := 1) hx hb hr rfl (fun t ht hW => ⟨1, rfl, ⟨fun _ => Or.inl c_1, fun _ => by decide⟩, ht⟩) (fun _ h => nomatch h) dX10_isSign_23
  · refine lv_iload_n hx hb dX10_isSign_6 rfl (lv_at hl 0 rfl) ?_
    refine lv_bipush (v := 60) hx hb dX10_isSign_7 kc_b_60 ?_
    refine lv_icmp_eq (tgt := 18) hx hb dX10_isSign_9 kc_t_9_9 (fun c_2 => ?_) (fun c_2 => ?_)
    · refine lv_iconst (v := 1) hx hb dX10_isSign_18 kc_i_1 ?_
      refine lv_goto (tgt := 23) hx hb dX10_isSign_19 kc_t_19_4 ?_
      rw [hQ]
      exact W.zret (v := 1) hx hb hr rfl (fun t ht hW => ⟨1, rfl, ⟨fun _ => Or.inr (Or.inl c_2), fun _ => by decide⟩, ht⟩) (fun _ h => nomatch h) dX10_isSign_23
    · refine lv_iload_n hx hb dX10_isSign_12 rfl (lv_at hl 0 rfl) ?_
      refine lv_bipush (v := 62) hx hb dX10_isSign_13 kc_b_62 ?_
      refine lv_icmp_ne (tgt := 22) hx hb dX10_isSign_15 kc_t_15_7 (fun c_3 => ?_) (fun c_3 => ?_)
      · refine lv_iconst (v := 0) hx hb dX10_isSign_22 kc_i_0 ?_
        rw [hQ]
        exact W.zret (v := 0) hx hb hr rfl (fun t ht hW => ⟨0, rfl, ⟨fun z => absurd rfl z, fun z => by rcases z with z | z | z; exact absurd z c_1; exact absurd z c_2; exact absurd z c_3⟩, ht⟩) (fun _ h => nomatch h) dX10_isSign_23
      · refine lv_iconst (v := 1) hx hb dX10_isSign_18 kc_i_1 ?_
        refine lv_goto (tgt := 23) hx hb dX10_isSign_19 kc_t_19_4 ?_
        rw [hQ]
        exact W.zret (v := 1) hx hb hr rfl (fun t ht hW => ⟨1, rfl, ⟨fun _ => Or.inr (Or.inr c_3), fun _ => by decide⟩, ht⟩) (fun _ h => nomatch h) dX10_isSign_23

def w_s_within10x : List Cond := .code yX10_within cX10_within 2 (some .int) :: ([.constantLong RX10 163 (-1000000), .constantLong RX10 165 (1000000), .methodLink RX10 167 Lib.MathLoose.min_long.x, .static Lib.MathLoose.min_long.x, .initialized RJ9, .code Lib.MathLoose.min_long.x Lib.MathLoose.min_long.code 4 (some .long), .methodLink RX10 173 Lib.MathLoose.max_long.x, .static Lib.MathLoose.max_long.x, .code Lib.MathLoose.max_long.x Lib.MathLoose.max_long.code 4 (some .long)] ++ [])
theorem gw_s_within10x : (w_s_within10x).all goodWord = true := kGc rfl (kGa (by decide +kernel) kGn)
set_option maxHeartbeats 4000000 in
set_option maxRecDepth 100000 in
theorem s_within10x (l : Launch) (dC : Nat → ClassId) (dI : Nat → Nat → Nat) (p0 : Int64) : Met l yX10_within w_s_within10x ({ frames := 2, cells := 0, slots := 0, locals := 120 }) (kR dC dI [.long p0] [] [] kT) (vp_Si (fun r : Int32 => r = kClm (Int64.toInt p0))) 0 0 (fun _ => False) := by
  refine Met.ofW (cc := cX10_within) (maxL := 2) (ret := (some .int)) (by decide) rfl ?_
  intro p e s m args below meth c s₁ B hml hv
  obtain ⟨rfl, hP, hK, hX⟩ := hv
  have hx := B.exec
  have hb := B.bytes
  have hr := B.returns
  have hts := atoms_spec (ws := w_s_within10x) B.pre
  have hown : s.vm.findClass RX10 = some m.cls := findClass_of_methodNamed B.named
  have hlocks := B.notSynchronized
  have hP : va_P (dC, dI) vwCl [] s.heap := hP
  have hl := lv_entry ([.long p0]) (n := 2) (Nat.le_of_ble_eq_true rfl)
  rw [lg_entry_eq]
  generalize (lg_sl ([.long p0]) ++ List.replicate (2 - (lg_sl ([.long p0])).length) Slot.unset).toArray = ls at hl ⊢
  have hl : lv_has ls 2 [(0, .long p0)] := hl
  refine kQ (fun Q hQ => ?_)
  refine lv_ldc2 (v := (-1000000)) hx hb hown (hts (.constantLong RX10 163 (-1000000)) (List.mem_cons_of_mem _ (List.mem_append_left _ (List.mem_of_getElem? (i := 0) rfl)))) dX10_within_0 ?_
  refine lv_ldc2 (v := 1000000) hx hb hown (hts (.constantLong RX10 165 (1000000)) (List.mem_cons_of_mem _ (List.mem_append_left _ (List.mem_of_getElem? (i := 1) rfl)))) dX10_within_3 ?_
  refine lv_lload_n hx hb dX10_within_6 rfl (lv_at hl 0 rfl) ?_
  refine va_mmin_long hx hb (hml.trans hl.1.symm) hown (hts (.methodLink RX10 167 Lib.MathLoose.min_long.x) (List.mem_cons_of_mem _ (List.mem_append_left _ (List.mem_of_getElem? (i := 2) rfl)))) (hts (.static Lib.MathLoose.min_long.x) (List.mem_cons_of_mem _ (List.mem_append_left _ (List.mem_of_getElem? (i := 3) rfl)))) (hts (.initialized RJ9) (List.mem_cons_of_mem _ (List.mem_append_left _ (List.mem_of_getElem? (i := 4) rfl)))) (hts (.code Lib.MathLoose.min_long.x Lib.MathLoose.min_long.code 4 (some .long)) (List.mem_cons_of_mem _ (List.mem_append_left _ (List.mem_of_getElem? (i := 5) rfl)))) (Nat.le_of_ble_eq_true rfl) (Nat.le_of_ble_eq_true rfl) (Nat.le_of_ble_eq_true rfl) (Nat.le_of_ble_eq_true rfl) dX10_within_7 ?_
  refine lv_topl (fun z_1 ez_1 => ?_)
  refine va_mmax_long hx hb (hml.trans hl.1.symm) hown (hts (.methodLink RX10 173 Lib.MathLoose.max_long.x) (List.mem_cons_of_mem _ (List.mem_append_left _ (List.mem_of_getElem? (i := 6) rfl)))) (hts (.static Lib.MathLoose.max_long.x) (List.mem_cons_of_mem _ (List.mem_append_left _ (List.mem_of_getElem? (i := 7) rfl)))) (hts (.initialized RJ9) (List.mem_cons_of_mem _ (List.mem_append_left _ (List.mem_of_getElem? (i := 4) rfl)))) (hts (.code Lib.MathLoose.max_long.x Lib.MathLoose.max_long.code 4 (some .long)) (List.mem_cons_of_mem _ (List.mem_append_left _ (List.mem_of_getElem? (i := 8) rfl)))) (Nat.le_of_ble_eq_true rfl) (Nat.le_of_ble_eq_true rfl) (Nat.le_of_ble_eq_true rfl) (Nat.le_of_ble_eq_true rfl) dX10_within_10 ?_
  refine lv_topl (fun z_2 ez_2 => ?_)
  obtain ⟨x_3, ex_3⟩ : ∃ z : Int32, z = Int64.toInt32 z_2 := ⟨_, rfl⟩
  refine lv_l2i (v := x_3) hx hb dX10_within_13 ex_3.symm ?_
  rw [hQ]
  exact W.iret (v := x_3) hx hb hr (fun t ht hW => ⟨x_3, rfl, (kWit ez_1 ez_2 ex_3), ht⟩) (fun _ h => nomatch h) dX10_within_14

def w_s_goesIn10x_g : List Cond := .code yX10_goesIn cX10_goesIn 1 (some .boolean) :: ([.fieldLink RX10 153 "NotEndedModel" "deep" "I", .fieldLink RX10 141 "NotEndedModel" "at" "I"] ++ (wsX100))
theorem gw_s_goesIn10x_g : (w_s_goesIn10x_g).all goodWord = true := kGc rfl (kGa (by decide +kernel) gw_wsX100)
set_option maxHeartbeats 4000000 in
set_option maxRecDepth 100000 in
theorem s_goesIn10x_g (l : Launch) (dC : Nat → ClassId) (dI : Nat → Nat → Nat) (jM : Nat) (v0 : Value) (v1 : Value) (v2 : Value) (v3 : Value) (v6 : Value) (v7 : Value) (v8 : Value) (v12 : Value) (v14 : Value) (v15 : Value) (v18 : Value) (v19 : Value) (v20 : Value) (v21 : Value) (v22 : Value) (v23 : Value) (v24 : Value) (v25 : Value) (v26 : Value) (v27 : Value) (v28 : Value) (v29 : Value) (v30 : Value) (v31 : Value) (v32 : Value) (v33 : Value) (v34 : Value) (v35 : Value) (v36 : Value) (v37 : Value) (v38 : Value) (v39 : Value) (v40 : Value) (v41 : Value) (v42 : Value) (v43 : Value) (v44 : Value) (v45 : Value) (v46 : Value) (v47 : Value) (v48 : Value) (v49 : Value) (v50 : Value) (v51 : Value) (lt : Nat) (q6 : Nat) (q7 : Nat) (tx : Nat) (be : Nat) (en : Nat) (a : Nat) (ha : a ≤ en) (hen : en ≤ 1680) (hlt : a < en) (dd : Nat) (hd6 : dd < 6) (sz : Nat) : Met l yX10_goesIn w_s_goesIn10x_g ({ frames := 2, cells := 0, slots := 0, locals := 120 }) (kW dC dI [.ref jM] [(jM, .inr (10, [v0, v1, v2, v3, .ref lt, .ref tx, v6, v7, v8, .int (nI (be)), .int (nI (en)), .int (nI (a)), v12, .int (nI (dd)), v14, v15, .ref q6, .ref q7, v18, v19, v20, v21, v22, v23, v24, v25, v26, v27, v28, v29, v30, v31, v32, v33, v34, v35, v36, v37, v38, v39, v40, v41, v42, v43, v44, v45, v46, v47, v48, v49, v50, v51]))] [] kT sz) (va_Qi (fun (r : Int32) (_ : Unit) => r = 1) (fun (_ : Unit) => fun t : State => kB dC dI [(jM, .inr (10, [v0, v1, v2, v3, .ref lt, .ref tx, v6, v7, v8, .int (nI (be)), .int (nI (en)), .int (nI (a + 1)), v12, .int (nI (dd + 1)), v14, v15, .ref q6, .ref q7, v18, v19, v20, v21, v22, v23, v24, v25, v26, v27, v28, v29, v30, v31, v32, v33, v34, v35, v36, v37, v38, v39, v40, v41, v42, v43, v44, v45, v46, v47, v48, v49, v50, v51]))] [] (va_A [(jM, .inr (10, [v0, v1, v2, v3, .ref lt, .ref tx, v6, v7, v8, .int (nI (be)), .int (nI (en)), .int (nI (a)), v12, .int (nI (dd)), v14, v15, .ref q6, .ref q7, v18, v19, v20, v21, v22, v23, v24, v25, v26, v27, v28, v29, v30, v31, v32, v33, v34, v35, v36, v37, v38, v39, v40, v41, v42, v43, v44, v45, v46, v47, v48, v49, v50, v51]))] sz) t) (va_A [(jM, .inr (10, [v0, v1, v2, v3, .ref lt, .ref tx, v6, v7, v8, .int (nI (be)), .int (nI (en)), .int (nI (a)), v12, .int (nI (dd)), v14, v15, .ref q6, .ref q7, v18, v19, v20, v21, v22, v23, v24, v25, v26, v27, v28, v29, v30, v31, v32, v33, v34, v35, v36, v37, v38, v39, v40, v41, v42, v43, v44, v45, v46, v47, v48, v49, v50, v51]))] sz)) 0 0 (va_A [(jM, .inr (10, [v0, v1, v2, v3, .ref lt, .ref tx, v6, v7, v8, .int (nI (be)), .int (nI (en)), .int (nI (a)), v12, .int (nI (dd)), v14, v15, .ref q6, .ref q7, v18, v19, v20, v21, v22, v23, v24, v25, v26, v27, v28, v29, v30, v31, v32, v33, v34, v35, v36, v37, v38, v39, v40, v41, v42, v43, v44, v45, v46, v47, v48, v49, v50, v51]))] sz) := by
  refine Met.ofW (cc := cX10_goesIn) (maxL := 1) (ret := (some .boolean)) (by decide) rfl ?_
  intro p e s m args below meth c s₁ B hml hv
  obtain ⟨rfl, hsz, hP, hK, hD0, hX⟩ := hv
  have hx := B.exec
  have hb := B.bytes
  have hr := B.returns
  have hts := atoms_spec (ws := w_s_goesIn10x_g) B.pre
  have hown : s.vm.findClass RX10 = some m.cls := findClass_of_methodNamed B.named
  have hlocks := B.notSynchronized
  subst hsz
  have hD := hD0.self (sz := s.heap.size)
  generalize hAe : va_A [(jM, .inr (10, [v0, v1, v2, v3, .ref lt, .ref tx, v6, v7, v8, .int (nI (be)), .int (nI (en)), .int (nI (a)), v12, .int (nI (dd)), v14, v15, .ref q6, .ref q7, v18, v19, v20, v21, v22, v23, v24, v25, v26, v27, v28, v29, v30, v31, v32, v33, v34, v35, v36, v37, v38, v39, v40, v41, v42, v43, v44, v45, v46, v47, v48, v49, v50, v51]))] s.heap.size = A at hD ⊢
  have hA : ∀ q : Nat, s.heap.size ≤ q → A q := fun q h => by rw [← hAe]; exact Or.inr h
  have hS : va_S A s.heap s.heap [] := va_S.rf
  have hP : va_P (dC, dI) vwCl [(jM, .inr (10, [v0, v1, v2, v3, .ref lt, .ref tx, v6, v7, v8, .int (nI (be)), .int (nI (en)), .int (nI (a)), v12, .int (nI (dd)), v14, v15, .ref q6, .ref q7, v18, v19, v20, v21, v22, v23, v24, v25, v26, v27, v28, v29, v30, v31, v32, v33, v34, v35, v36, v37, v38, v39, v40, v41, v42, v43, v44, v45, v46, v47, v48, v49, v50, v51]))] s.heap := hP
  have hl := lv_entry ([.ref jM]) (n := 1) (Nat.le_of_ble_eq_true rfl)
  rw [lg_entry_eq]
  generalize (lg_sl ([.ref jM]) ++ List.replicate (1 - (lg_sl ([.ref jM])).length) Slot.unset).toArray = ls at hl ⊢
  have hl : lv_has ls 1 [(0, .ref jM)] := hl
  refine kQ (fun Q hQ => ?_)
  refine lv_aload_n hx hb dX10_goesIn_0 rfl (lv_at hl 0 rfl) ?_
  refine va_get (D := (dC, dI)) (ci := 10) (v := .int (nI (dd))) (C := RX10) (T := TX10) (N := 52) hx hb hts (fun _ h => List.mem_cons_of_mem _ (List.mem_append_right _ h)) hown hK hP 0 rfl rfl 13 kc_l_13_52 (hts (.fieldLink RX10 153 "NotEndedModel" "deep" "I") (List.mem_cons_of_mem _ (List.mem_append_left _ (List.mem_of_getElem? (i := 0) rfl)))) (fun _ h9 => h9) rfl dX10_goesIn_1 ?_
  refine lv_bipush (v := 6) hx hb dX10_goesIn_4 kc_b_6 ?_
  refine lv_icmp_ne (tgt := 14) hx hb dX10_goesIn_6 kc_t_6_8 (fun c_1 => ?_) (fun c_1 => absurd c_1 (kNe6 (by omega)))
  refine lv_aload_n hx hb dX10_goesIn_14 rfl (lv_at hl 0 rfl) ?_
  refine lv_dup hx hb dX10_goesIn_15 rfl ?_
  refine va_get (D := (dC, dI)) (ci := 10) (v := .int (nI (dd))) (C := RX10) (T := TX10) (N := 52) hx hb hts (fun _ h => List.mem_cons_of_mem _ (List.mem_append_right _ h)) hown hK hP 0 rfl rfl 13 kc_l_13_52 (hts (.fieldLink RX10 153 "NotEndedModel" "deep" "I") (List.mem_cons_of_mem _ (List.mem_append_left _ (List.mem_of_getElem? (i := 0) rfl)))) (fun _ h9 => h9) rfl dX10_goesIn_16 ?_
  refine lv_iconst (v := 1) hx hb dX10_goesIn_19 kc_i_1 ?_
  refine lv_iadd hx hb dX10_goesIn_20 ?_
  refine lv_topi (fun y_2 ey_2 => ?_)
  obtain rfl : y_2 = nI (dd + 1) := ey_2.trans (nI_add (dd) (1))
  refine va_put (D := (dC, dI)) (ci := 10) (v := .int (nI (dd + 1))) (ty := tyX10 13) (C := RX10) (T := TX10) (N := 52) hx hb hts (fun _ h => List.mem_cons_of_mem _ (List.mem_append_right _ h)) tyX10 tyX10_ok nmX10 hown hK hP hD hS 0 rfl rfl 13 kc_l_13_52 (hts (.fieldLink RX10 153 "NotEndedModel" "deep" "I") (List.mem_cons_of_mem _ (List.mem_append_left _ (List.mem_of_getElem? (i := 0) rfl)))) (fun _ h9 => h9) rfl (tyX10_ok 13 kc_l_13_52) rfl rfl (Nat.le_of_ble_eq_true rfl) dX10_goesIn_21 (fun H locs hP hD hS => ?_)
  have hPD : kPD dC dI A [(jM, .inr (10, [v0, v1, v2, v3, .ref lt, .ref tx, v6, v7, v8, .int (nI (be)), .int (nI (en)), .int (nI (a)), v12, .int (nI (dd + 1)), v14, v15, .ref q6, .ref q7, v18, v19, v20, v21, v22, v23, v24, v25, v26, v27, v28, v29, v30, v31, v32, v33, v34, v35, v36, v37, v38, v39, v40, v41, v42, v43, v44, v45, v46, v47, v48, v49, v50, v51]))] H := ⟨hP, hD⟩
  obtain ⟨hP, hD⟩ := hPD
  refine lv_aload_n hx hb dX10_goesIn_24 rfl (lv_at hl 0 rfl) ?_
  refine lv_dup hx hb dX10_goesIn_25 rfl ?_
  refine va_get (D := (dC, dI)) (ci := 10) (v := .int (nI (a))) (C := RX10) (T := TX10) (N := 52) hx hb hts (fun _ h => List.mem_cons_of_mem _ (List.mem_append_right _ h)) hown hK hP 0 rfl rfl 11 kc_l_11_52 (hts (.fieldLink RX10 141 "NotEndedModel" "at" "I") (List.mem_cons_of_mem _ (List.mem_append_left _ (List.mem_of_getElem? (i := 1) rfl)))) (fun _ h9 => h9) rfl dX10_goesIn_26 ?_
  refine lv_iconst (v := 1) hx hb dX10_goesIn_29 kc_i_1 ?_
  refine lv_iadd hx hb dX10_goesIn_30 ?_
  refine lv_topi (fun y_3 ey_3 => ?_)
  obtain rfl : y_3 = nI (a + 1) := ey_3.trans (nI_add (a) (1))
  refine va_put (D := (dC, dI)) (ci := 10) (v := .int (nI (a + 1))) (ty := tyX10 11) (C := RX10) (T := TX10) (N := 52) hx hb hts (fun _ h => List.mem_cons_of_mem _ (List.mem_append_right _ h)) tyX10 tyX10_ok nmX10 hown hK hP hD hS 0 rfl rfl 11 kc_l_11_52 (hts (.fieldLink RX10 141 "NotEndedModel" "at" "I") (List.mem_cons_of_mem _ (List.mem_append_left _ (List.mem_of_getElem? (i := 1) rfl)))) (fun _ h9 => h9) rfl (tyX10_ok 11 kc_l_11_52) rfl rfl (Nat.le_of_ble_eq_true rfl) dX10_goesIn_31 (fun H locs hP hD hS => ?_)
  have hPD : kPD dC dI A [(jM, .inr (10, [v0, v1, v2, v3, .ref lt, .ref tx, v6, v7, v8, .int (nI (be)), .int (nI (en)), .int (nI (a + 1)), v12, .int (nI (dd + 1)), v14, v15, .ref q6, .ref q7, v18, v19, v20, v21, v22, v23, v24, v25, v26, v27, v28, v29, v30, v31, v32, v33, v34, v35, v36, v37, v38, v39, v40, v41, v42, v43, v44, v45, v46, v47, v48, v49, v50, v51]))] H := ⟨hP, hD⟩
  obtain ⟨hP, hD⟩ := hPD
  refine lv_iconst (v := 1) hx hb dX10_goesIn_34 kc_i_1 ?_
  have hP9 := hP
  have hD9 := hD
  have hK9 := hK
  rw [hQ]
  exact W.zret (v := 1) hx hb hr rfl (fun t ht hW => ⟨⟨1, (), rfl, rfl,  by rw [ht]; exact hP9, va_K.moved hW.alike hK9, hD9⟩, hS.F ht⟩) hS.2.2 dX10_goesIn_35
