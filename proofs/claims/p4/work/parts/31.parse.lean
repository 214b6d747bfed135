theorem dX10_look_0 : decode cX10_look 0 = .ok (.aload_n 0, 1) := kDs0 kf_42 (by decide +kernel)
theorem dX10_look_1 : decode cX10_look 1 = .ok (.getfield 141, 3) := kDs2 kf_180 (by decide +kernel)
theorem dX10_look_4 : decode cX10_look 4 = .ok (.aload_n 0, 1) := kDs0 kf_42 (by decide +kernel)
theorem dX10_look_5 : decode cX10_look 5 = .ok (.getfield 144, 3) := kDs2 kf_180 (by decide +kernel)
theorem dX10_look_8 : decode cX10_look 8 = .ok (.if_icmp .ge 35, 3) := kDs4 kf_162 (by decide +kernel)
theorem dX10_look_43 : decode cX10_look 43 = .ok (.aload_n 0, 1) := kDs0 kf_42 (by decide +kernel)
theorem dX10_look_44 : decode cX10_look 44 = .ok (.getfield 141, 3) := kDs2 kf_180 (by decide +kernel)
theorem dX10_look_47 : decode cX10_look 47 = .ok (.aload_n 0, 1) := kDs0 kf_42 (by decide +kernel)
theorem dX10_look_48 : decode cX10_look 48 = .ok (.getfield 144, 3) := kDs2 kf_180 (by decide +kernel)
theorem dX10_look_51 : decode cX10_look 51 = .ok (.if_icmp .ge 24, 3) := kDs4 kf_162 (by decide +kernel)
theorem dX10_look_75 : decode cX10_look 75 = .ok (.iconst (-1), 1) := kDs0 kf_2 (by decide +kernel)
theorem dX10_look_76 : decode cX10_look 76 = .ok (.ireturn, 1) := kDs0 kf_172 (by decide +kernel)
theorem dX10_look_54 : decode cX10_look 54 = .ok (.aload_n 0, 1) := kDs0 kf_42 (by decide +kernel)
theorem dX10_look_55 : decode cX10_look 55 = .ok (.getfield 23, 3) := kDs2 kf_180 (by decide +kernel)
theorem dX10_look_58 : decode cX10_look 58 = .ok (.aload_n 0, 1) := kDs0 kf_42 (by decide +kernel)
theorem dX10_look_59 : decode cX10_look 59 = .ok (.getfield 147, 3) := kDs2 kf_180 (by decide +kernel)
theorem dX10_look_62 : decode cX10_look 62 = .ok (.aload_n 0, 1) := kDs0 kf_42 (by decide +kernel)
theorem dX10_look_63 : decode cX10_look 63 = .ok (.getfield 141, 3) := kDs2 kf_180 (by decide +kernel)
theorem dX10_look_66 : decode cX10_look 66 = .ok (.iadd, 1) := kDs0 kf_96 (by decide +kernel)
theorem dX10_look_67 : decode cX10_look 67 = .ok (.baload, 1) := kDs0 kf_51 (by decide +kernel)
theorem dX10_look_68 : decode cX10_look 68 = .ok (.sipush 255, 3) := kDs4 kf_17 (by decide +kernel)
theorem dX10_look_71 : decode cX10_look 71 = .ok (.iand, 1) := kDs0 kf_126 (by decide +kernel)
theorem dX10_look_72 : decode cX10_look 72 = .ok (.goto 4, 3) := kDs4 kf_167 (by decide +kernel)
theorem dX10_look_11 : decode cX10_look 11 = .ok (.aload_n 0, 1) := kDs0 kf_42 (by decide +kernel)
theorem dX10_look_12 : decode cX10_look 12 = .ok (.getfield 23, 3) := kDs2 kf_180 (by decide +kernel)
theorem dX10_look_15 : decode cX10_look 15 = .ok (.aload_n 0, 1) := kDs0 kf_42 (by decide +kernel)
theorem dX10_look_16 : decode cX10_look 16 = .ok (.getfield 147, 3) := kDs2 kf_180 (by decide +kernel)
theorem dX10_look_19 : decode cX10_look 19 = .ok (.aload_n 0, 1) := kDs0 kf_42 (by decide +kernel)
theorem dX10_look_20 : decode cX10_look 20 = .ok (.getfield 141, 3) := kDs2 kf_180 (by decide +kernel)
theorem dX10_look_23 : decode cX10_look 23 = .ok (.iadd, 1) := kDs0 kf_96 (by decide +kernel)
theorem dX10_look_24 : decode cX10_look 24 = .ok (.baload, 1) := kDs0 kf_51 (by decide +kernel)
theorem dX10_look_25 : decode cX10_look 25 = .ok (.bipush 32, 2) := kDs3 kf_16 (by decide +kernel)
theorem dX10_look_27 : decode cX10_look 27 = .ok (.if_icmp .ne 16, 3) := kDs4 kf_160 (by decide +kernel)
theorem dX10_look_30 : decode cX10_look 30 = .ok (.aload_n 0, 1) := kDs0 kf_42 (by decide +kernel)
theorem dX10_look_31 : decode cX10_look 31 = .ok (.dup, 1) := kDs0 kf_89 (by decide +kernel)
theorem dX10_look_32 : decode cX10_look 32 = .ok (.getfield 141, 3) := kDs2 kf_180 (by decide +kernel)
theorem dX10_look_35 : decode cX10_look 35 = .ok (.iconst 1, 1) := kDs0 kf_4 (by decide +kernel)
theorem dX10_look_36 : decode cX10_look 36 = .ok (.iadd, 1) := kDs0 kf_96 (by decide +kernel)
theorem dX10_look_37 : decode cX10_look 37 = .ok (.putfield 141, 3) := kDs2 kf_181 (by decide +kernel)
theorem dX10_look_40 : decode cX10_look 40 = .ok (.goto (-40), 3) := kDs4 kf_167 (by decide +kernel)
def w_s_look10 : List Cond := .code yX10_look cX10_look 1 (some .int) :: ([.fieldLink RX10 141 "NotEndedModel" "at" "I", .fieldLink RX10 144 "NotEndedModel" "ends" "I", .fieldLink RX10 23 "NotEndedModel" "text" "[B", .fieldLink RX10 147 "NotEndedModel" "begins" "I"] ++ (wsX100))
theorem gw_s_look10 : (w_s_look10).all goodWord = true := kGc rfl (kGa (by decide +kernel) gw_wsX100)
theorem hd_X10_look : yX10_look.cls ≠ "java/lang/invoke/MethodHandle" ∧ yX10_look.cls ≠ "java/lang/invoke/VarHandle" ∧ (parseMethodDescriptor yX10_look.desc).map (fun d => d.parameters.length) = some 0 := by decide +kernel
set_option maxHeartbeats 4000000 in
set_option maxRecDepth 100000 in
theorem s_look10 (l : Launch) (dC : Nat → ClassId) (dI : Nat → Nat → Nat) (jM : Nat) (v0 : Value) (v1 : Value) (v2 : Value) (v3 : Value) (v6 : Value) (v7 : Value) (v8 : Value) (v12 : Value) (v13 : Value) (v14 : Value) (v15 : Value) (v18 : Value) (v19 : Value) (v20 : Value) (v21 : Value) (v22 : Value) (v23 : Value) (v24 : Value) (v25 : Value) (v26 : Value) (v27 : Value) (v28 : Value) (v29 : Value) (v30 : Value) (v31 : Value) (v32 : Value) (v33 : Value) (v34 : Value) (v35 : Value) (v36 : Value) (v37 : Value) (v38 : Value) (v39 : Value) (v40 : Value) (v41 : Value) (v42 : Value) (v43 : Value) (v44 : Value) (v45 : Value) (v46 : Value) (v47 : Value) (v48 : Value) (v49 : Value) (v50 : Value) (v51 : Value) (lt : Nat) (q6 : Nat) (q7 : Nat) (tx : Nat) (cT : ClassId) (nT : Nat) (gT : Nat → Int32) (be : Nat) (en : Nat) (a : Nat) (hbe : be + en ≤ nT) (hnT : nT ≤ 1680) (ha : a ≤ en) (sz : Nat) : Met l yX10_look w_s_look10 ({ frames := 1, cells := 0, slots := 0, locals := 60 }) (kW dC dI [.ref jM] [(jM, .inr (10, [v0, v1, v2, v3, .ref lt, .ref tx, v6, v7, v8, .int (nI (be)), .int (nI (en)), .int (nI (a)), v12, v13, v14, v15, .ref q6, .ref q7, v18, v19, v20, v21, v22, v23, v24, v25, v26, v27, v28, v29, v30, v31, v32, v33, v34, v35, v36, v37, v38, v39, v40, v41, v42, v43, v44, v45, v46, v47, v48, v49, v50, v51])), (tx, .inl (cT, nT, .inl gT))] [(cT, .byte)] kT sz) (va_Qi (fun (r : Int32) (a1 : Nat) => ((r = -1 ∨ (a1 < en ∧ ¬ gT (be + a1) = 32)) ∧ (a ≤ a1 ∧ a1 ≤ en) ∧ ((a < en ∧ ¬ gT (be + a) = 32) → a1 = a))) (fun (a1 : Nat) => fun t : State => kB dC dI [(jM, .inr (10, [v0, v1, v2, v3, .ref lt, .ref tx, v6, v7, v8, .int (nI (be)), .int (nI (en)), .int (nI (a1)), v12, v13, v14, v15, .ref q6, .ref q7, v18, v19, v20, v21, v22, v23, v24, v25, v26, v27, v28, v29, v30, v31, v32, v33, v34, v35, v36, v37, v38, v39, v40, v41, v42, v43, v44, v45, v46, v47, v48, v49, v50, v51])), (tx, .inl (cT, nT, .inl gT))] [(cT, .byte)] (va_A [(jM, .inr (10, [v0, v1, v2, v3, .ref lt, .ref tx, v6, v7, v8, .int (nI (be)), .int (nI (en)), .int (nI (a)), v12, v13, v14, v15, .ref q6, .ref q7, v18, v19, v20, v21, v22, v23, v24, v25, v26, v27, v28, v29, v30, v31, v32, v33, v34, v35, v36, v37, v38, v39, v40, v41, v42, v43, v44, v45, v46, v47, v48, v49, v50, v51])), (tx, .inl (cT, nT, .inl gT))] sz) t) (va_A [(jM, .inr (10, [v0, v1, v2, v3, .ref lt, .ref tx, v6, v7, v8, .int (nI (be)), .int (nI (en)), .int (nI (a)), v12, v13, v14, v15, .ref q6, .ref q7, v18, v19, v20, v21, v22, v23, v24, v25, v26, v27, v28, v29, v30, v31, v32, v33, v34, v35, v36, v37, v38, v39, v40, v41, v42, v43, v44, v45, v46, v47, v48, v49, v50, v51])), (tx, .inl (cT, nT, .inl gT))] sz)) 0 0 (va_A [(jM, .inr (10, [v0, v1, v2, v3, .ref lt, .ref tx, v6, v7, v8, .int (nI (be)), .int (nI (en)), .int (nI (a)), v12, v13, v14, v15, .ref q6, .ref q7, v18, v19, v20, v21, v22, v23, v24, v25, v26, v27, v28, v29, v30, v31, v32, v33, v34, v35, v36, v37, v38, v39, v40, v41, v42, v43, v44, v45, v46, v47, v48, v49, v50, v51])), (tx, .inl (cT, nT, .inl gT))] sz) := by
  refine Met.ofW (cc := cX10_look) (maxL := 1) (ret := (some .int)) (by decide) rfl ?_
  intro p e s m args below meth c s₁ B hml hv
  obtain ⟨rfl, hsz, hP, hK, hD0, hX⟩ := hv
  have hx := B.exec
  have hb := B.bytes
  have hr := B.returns
  have hts := atoms_spec (ws := w_s_look10) B.pre
  have hown : s.vm.findClass RX10 = some m.cls := findClass_of_methodNamed B.named
  have hlocks := B.notSynchronized
  subst hsz
  have hD := hD0.self (sz := s.heap.size)
  generalize hAe : va_A [(jM, .inr (10, [v0, v1, v2, v3, .ref lt, .ref tx, v6, v7, v8, .int (nI (be)), .int (nI (en)), .int (nI (a)), v12, v13, v14, v15, .ref q6, .ref q7, v18, v19, v20, v21, v22, v23, v24, v25, v26, v27, v28, v29, v30, v31, v32, v33, v34, v35, v36, v37, v38, v39, v40, v41, v42, v43, v44, v45, v46, v47, v48, v49, v50, v51])), (tx, .inl (cT, nT, .inl gT))] s.heap.size = A at hD ⊢
  have hA : ∀ q : Nat, s.heap.size ≤ q → A q := fun q h => by rw [← hAe]; exact Or.inr h
  have hS : va_S A s.heap s.heap [] := va_S.rf
  have hP : va_P (dC, dI) vwCl [(jM, .inr (10, [v0, v1, v2, v3, .ref lt, .ref tx, v6, v7, v8, .int (nI (be)), .int (nI (en)), .int (nI (a)), v12, v13, v14, v15, .ref q6, .ref q7, v18, v19, v20, v21, v22, v23, v24, v25, v26, v27, v28, v29, v30, v31, v32, v33, v34, v35, v36, v37, v38, v39, v40, v41, v42, v43, v44, v45, v46, v47, v48, v49, v50, v51])), (tx, .inl (cT, nT, .inl gT))] s.heap := hP
  have hl := lv_entry ([.ref jM]) (n := 1) (Nat.le_of_ble_eq_true rfl)
  rw [lg_entry_eq]
  generalize (lg_sl ([.ref jM]) ++ List.replicate (1 - (lg_sl ([.ref jM])).length) Slot.unset).toArray = ls at hl ⊢
  have hl : lv_has ls 1 [(0, .ref jM)] := hl
  refine kQ (fun Q hQ => ?_)
  have lp_k_1 : ∀ (n9 : Nat) (i : Nat) (ivk_1_0 : (a ≤ i ∧ i ≤ en)) (ivk_1_1 : ((a < en ∧ ¬ gT (be + a) = 32) → i = a)) (H : Heap) (locs : List Loc) (_ : va_P (dC, dI) vwCl [(jM, .inr (10, [v0, v1, v2, v3, .ref lt, .ref tx, v6, v7, v8, .int (nI (be)), .int (nI (en)), .int (nI (i)), v12, v13, v14, v15, .ref q6, .ref q7, v18, v19, v20, v21, v22, v23, v24, v25, v26, v27, v28, v29, v30, v31, v32, v33, v34, v35, v36, v37, v38, v39, v40, v41, v42, v43, v44, v45, v46, v47, v48, v49, v50, v51])), (tx, .inl (cT, nT, .inl gT))] H) (_ : va_D A [(jM, .inr (10, [v0, v1, v2, v3, .ref lt, .ref tx, v6, v7, v8, .int (nI (be)), .int (nI (en)), .int (nI (i)), v12, v13, v14, v15, .ref q6, .ref q7, v18, v19, v20, v21, v22, v23, v24, v25, v26, v27, v28, v29, v30, v31, v32, v33, v34, v35, v36, v37, v38, v39, v40, v41, v42, v43, v44, v45, v46, v47, v48, v49, v50, v51])), (tx, .inl (cT, nT, .inl gT))]) (_ : va_S A s.heap H locs) (ls : Array Slot) (_ : lv_has ls 1 [(0, .ref jM)]) (_ : en - i < n9), W p l e (headSpec w_s_look10 ({ frames := 1, cells := 0, slots := 0, locals := 60 })).room s m (#[.ref jM] : Array Value) below meth c H locs 0 0 Q (F0 m 0 ls []) := by
    intro n9
    induction n9 with
    | zero => intro i ivk_1_0 ivk_1_1 H locs hP hD hS ls hl hm9; exact absurd hm9 (Nat.not_lt_zero _)
    | succ n9 ih_k_1 =>
      intro i ivk_1_0 ivk_1_1 H locs hP hD hS ls hl hm9
      refine lv_aload_n hx hb dX10_look_0 rfl (lv_at hl 0 rfl) ?_
      refine va_get (D := (dC, dI)) (ci := 10) (v := .int (nI (i))) (C := RX10) (T := TX10) (N := 52) hx hb hts (fun _ h => List.mem_cons_of_mem _ (List.mem_append_right _ h)) hown hK hP 0 rfl rfl 11 kc_l_11_52 (hts (.fieldLink RX10 141 "NotEndedModel" "at" "I") (List.mem_cons_of_mem _ (List.mem_append_left _ (List.mem_of_getElem? (i := 0) rfl)))) (fun _ h9 => h9) rfl dX10_look_1 ?_
      refine lv_aload_n hx hb dX10_look_4 rfl (lv_at hl 0 rfl) ?_
      refine va_get (D := (dC, dI)) (ci := 10) (v := .int (nI (en))) (C := RX10) (T := TX10) (N := 52) hx hb hts (fun _ h => List.mem_cons_of_mem _ (List.mem_append_right _ h)) hown hK hP 0 rfl rfl 10 kc_l_10_52 (hts (.fieldLink RX10 144 "NotEndedModel" "ends" "I") (List.mem_cons_of_mem _ (List.mem_append_left _ (List.mem_of_getElem? (i := 1) rfl)))) (fun _ h9 => h9) rfl dX10_look_5 ?_
      refine lv_icmp_ge (tgt := 43) hx hb dX10_look_8 kc_t_8_35 (fun c_2 => ?_) (fun c_2 => ?_)
      · have bd_4 : en < 2147483648 := by omega
        have bd_5 : i < 2147483648 := by omega
        have hn_3 := kle (a := en) (b := i) bd_4 bd_5 c_2
        refine lv_aload_n hx hb dX10_look_43 rfl (lv_at hl 0 rfl) ?_
        refine va_get (D := (dC, dI)) (ci := 10) (v := .int (nI (i))) (C := RX10) (T := TX10) (N := 52) hx hb hts (fun _ h => List.mem_cons_of_mem _ (List.mem_append_right _ h)) hown hK hP 0 rfl rfl 11 kc_l_11_52 (hts (.fieldLink RX10 141 "NotEndedModel" "at" "I") (List.mem_cons_of_mem _ (List.mem_append_left _ (List.mem_of_getElem? (i := 0) rfl)))) (fun _ h9 => h9) rfl dX10_look_44 ?_
        refine lv_aload_n hx hb dX10_look_47 rfl (lv_at hl 0 rfl) ?_
        refine va_get (D := (dC, dI)) (ci := 10) (v := .int (nI (en))) (C := RX10) (T := TX10) (N := 52) hx hb hts (fun _ h => List.mem_cons_of_mem _ (List.mem_append_right _ h)) hown hK hP 0 rfl rfl 10 kc_l_10_52 (hts (.fieldLink RX10 144 "NotEndedModel" "ends" "I") (List.mem_cons_of_mem _ (List.mem_append_left _ (List.mem_of_getElem? (i := 1) rfl)))) (fun _ h9 => h9) rfl dX10_look_48 ?_
        refine lv_icmp_ge (tgt := 75) hx hb dX10_look_51 kc_t_51_24 (fun c_6 => ?_) (fun c_6 => ?_)
        · have hn_7 := kle (a := en) (b := i) bd_4 bd_5 c_6
          refine lv_iconst (v := (-1)) hx hb dX10_look_75 kc_i_m1 ?_
          have hP9 := hP
          have hD9 := hD
          have hK9 := hK
          rw [hQ]
          exact W.iret (v := (-1)) hx hb hr (fun t ht hW => ⟨⟨(-1), i, rfl, ⟨Or.inl rfl, by omega, ivk_1_1⟩,  by rw [ht]; exact hP9, va_K.moved hW.alike hK9, hD9⟩, hS.F ht⟩) hS.2.2 dX10_look_76
        · have hn_8 := knle (a := en) (b := i) bd_4 bd_5 c_6
          refine lv_aload_n hx hb dX10_look_54 rfl (lv_at hl 0 rfl) ?_
          refine va_get (D := (dC, dI)) (ci := 10) (v := .ref tx) (C := RX10) (T := TX10) (N := 52) hx hb hts (fun _ h => List.mem_cons_of_mem _ (List.mem_append_right _ h)) hown hK hP 0 rfl rfl 5 kc_l_5_52 (hts (.fieldLink RX10 23 "NotEndedModel" "text" "[B") (List.mem_cons_of_mem _ (List.mem_append_left _ (List.mem_of_getElem? (i := 2) rfl)))) (fun _ h9 => h9) rfl dX10_look_55 ?_
          refine lv_aload_n hx hb dX10_look_58 rfl (lv_at hl 0 rfl) ?_
          refine va_get (D := (dC, dI)) (ci := 10) (v := .int (nI (be))) (C := RX10) (T := TX10) (N := 52) hx hb hts (fun _ h => List.mem_cons_of_mem _ (List.mem_append_right _ h)) hown hK hP 0 rfl rfl 9 kc_l_9_52 (hts (.fieldLink RX10 147 "NotEndedModel" "begins" "I") (List.mem_cons_of_mem _ (List.mem_append_left _ (List.mem_of_getElem? (i := 3) rfl)))) (fun _ h9 => h9) rfl dX10_look_59 ?_
          refine lv_aload_n hx hb dX10_look_62 rfl (lv_at hl 0 rfl) ?_
          refine va_get (D := (dC, dI)) (ci := 10) (v := .int (nI (i))) (C := RX10) (T := TX10) (N := 52) hx hb hts (fun _ h => List.mem_cons_of_mem _ (List.mem_append_right _ h)) hown hK hP 0 rfl rfl 11 kc_l_11_52 (hts (.fieldLink RX10 141 "NotEndedModel" "at" "I") (List.mem_cons_of_mem _ (List.mem_append_left _ (List.mem_of_getElem? (i := 0) rfl)))) (fun _ h9 => h9) rfl dX10_look_63 ?_
          refine lv_iadd hx hb dX10_look_66 ?_
          refine lv_topi (fun y_9 ey_9 => ?_)
          obtain rfl : y_9 = nI (be + i) := ey_9.trans (nI_add (be) (i))
          have bd_10 : be + i < nT := by omega
          have bd_11 : nT < 2147483648 := by omega
          refine va_bald hx hb hK hP 1 0 rfl rfl (vp_in_nI (n := be + i) (N := nT) bd_10 bd_11) dX10_look_67 ?_
          refine lv_topi (fun x_12 ex_12 => ?_)
          refine lv_sipush (v := 255) hx hb dX10_look_68 kc_s_255 ?_
          refine lv_iand hx hb dX10_look_71 ?_
          refine lv_topi (fun x_13 ex_13 => ?_)
          refine lv_goto (tgt := 76) hx hb dX10_look_72 kc_t_72_4 ?_
          have hP9 := hP
          have hD9 := hD
          have hK9 := hK
          rw [hQ]
          exact W.iret (v := x_13) hx hb hr (fun t ht hW => ⟨⟨x_13, i, rfl, (by exfalso; omega),  by rw [ht]; exact hP9, va_K.moved hW.alike hK9, hD9⟩, hS.F ht⟩) hS.2.2 dX10_look_76
      · have bd_15 : en < 2147483648 := by omega
        have bd_16 : i < 2147483648 := by omega
        have hn_14 := knle (a := en) (b := i) bd_15 bd_16 c_2
        refine lv_aload_n hx hb dX10_look_11 rfl (lv_at hl 0 rfl) ?_
        refine va_get (D := (dC, dI)) (ci := 10) (v := .ref tx) (C := RX10) (T := TX10) (N := 52) hx hb hts (fun _ h => List.mem_cons_of_mem _ (List.mem_append_right _ h)) hown hK hP 0 rfl rfl 5 kc_l_5_52 (hts (.fieldLink RX10 23 "NotEndedModel" "text" "[B") (List.mem_cons_of_mem _ (List.mem_append_left _ (List.mem_of_getElem? (i := 2) rfl)))) (fun _ h9 => h9) rfl dX10_look_12 ?_
        refine lv_aload_n hx hb dX10_look_15 rfl (lv_at hl 0 rfl) ?_
        refine va_get (D := (dC, dI)) (ci := 10) (v := .int (nI (be))) (C := RX10) (T := TX10) (N := 52) hx hb hts (fun _ h => List.mem_cons_of_mem _ (List.mem_append_right _ h)) hown hK hP 0 rfl rfl 9 kc_l_9_52 (hts (.fieldLink RX10 147 "NotEndedModel" "begins" "I") (List.mem_cons_of_mem _ (List.mem_append_left _ (List.mem_of_getElem? (i := 3) rfl)))) (fun _ h9 => h9) rfl dX10_look_16 ?_
        refine lv_aload_n hx hb dX10_look_19 rfl (lv_at hl 0 rfl) ?_
        refine va_get (D := (dC, dI)) (ci := 10) (v := .int (nI (i))) (C := RX10) (T := TX10) (N := 52) hx hb hts (fun _ h => List.mem_cons_of_mem _ (List.mem_append_right _ h)) hown hK hP 0 rfl rfl 11 kc_l_11_52 (hts (.fieldLink RX10 141 "NotEndedModel" "at" "I") (List.mem_cons_of_mem _ (List.mem_append_left _ (List.mem_of_getElem? (i := 0) rfl)))) (fun _ h9 => h9) rfl dX10_look_20 ?_
        refine lv_iadd hx hb dX10_look_23 ?_
        refine lv_topi (fun y_17 ey_17 => ?_)
        obtain rfl : y_17 = nI (be + i) := ey_17.trans (nI_add (be) (i))
        have bd_18 : be + i < nT := by omega
        have bd_19 : nT < 2147483648 := by omega
        refine va_bald hx hb hK hP 1 0 rfl rfl (vp_in_nI (n := be + i) (N := nT) bd_18 bd_19) dX10_look_24 ?_
        refine lv_topi (fun x_20 ex_20 => ?_)
        refine lv_bipush (v := 32) hx hb dX10_look_25 kc_b_32 ?_
        refine lv_icmp_ne (tgt := 43) hx hb dX10_look_27 kc_t_27_16 (fun c_21 => ?_) (fun c_21 => ?_)
        · refine lv_aload_n hx hb dX10_look_43 rfl (lv_at hl 0 rfl) ?_
          refine va_get (D := (dC, dI)) (ci := 10) (v := .int (nI (i))) (C := RX10) (T := TX10) (N := 52) hx hb hts (fun _ h => List.mem_cons_of_mem _ (List.mem_append_right _ h)) hown hK hP 0 rfl rfl 11 kc_l_11_52 (hts (.fieldLink RX10 141 "NotEndedModel" "at" "I") (List.mem_cons_of_mem _ (List.mem_append_left _ (List.mem_of_getElem? (i := 0) rfl)))) (fun _ h9 => h9) rfl dX10_look_44 ?_
          refine lv_aload_n hx hb dX10_look_47 rfl (lv_at hl 0 rfl) ?_
          refine va_get (D := (dC, dI)) (ci := 10) (v := .int (nI (en))) (C := RX10) (T := TX10) (N := 52) hx hb hts (fun _ h => List.mem_cons_of_mem _ (List.mem_append_right _ h)) hown hK hP 0 rfl rfl 10 kc_l_10_52 (hts (.fieldLink RX10 144 "NotEndedModel" "ends" "I") (List.mem_cons_of_mem _ (List.mem_append_left _ (List.mem_of_getElem? (i := 1) rfl)))) (fun _ h9 => h9) rfl dX10_look_48 ?_
          refine lv_icmp_ge (tgt := 75) hx hb dX10_look_51 kc_t_51_24 (fun c_22 => ?_) (fun c_22 => ?_)
          · have hn_23 := kle (a := en) (b := i) bd_15 bd_16 c_22
            refine lv_iconst (v := (-1)) hx hb dX10_look_75 kc_i_m1 ?_
            have hP9 := hP
            have hD9 := hD
            have hK9 := hK
            rw [hQ]
            exact W.iret (v := (-1)) hx hb hr (fun t ht hW => ⟨⟨(-1), i, rfl, ⟨Or.inl rfl, by omega, ivk_1_1⟩,  by rw [ht]; exact hP9, va_K.moved hW.alike hK9, hD9⟩, hS.F ht⟩) hS.2.2 dX10_look_76
          · have hn_24 := knle (a := en) (b := i) bd_15 bd_16 c_22
            refine lv_aload_n hx hb dX10_look_54 rfl (lv_at hl 0 rfl) ?_
            refine va_get (D := (dC, dI)) (ci := 10) (v := .ref tx) (C := RX10) (T := TX10) (N := 52) hx hb hts (fun _ h => List.mem_cons_of_mem _ (List.mem_append_right _ h)) hown hK hP 0 rfl rfl 5 kc_l_5_52 (hts (.fieldLink RX10 23 "NotEndedModel" "text" "[B") (List.mem_cons_of_mem _ (List.mem_append_left _ (List.mem_of_getElem? (i := 2) rfl)))) (fun _ h9 => h9) rfl dX10_look_55 ?_
            refine lv_aload_n hx hb dX10_look_58 rfl (lv_at hl 0 rfl) ?_
            refine va_get (D := (dC, dI)) (ci := 10) (v := .int (nI (be))) (C := RX10) (T := TX10) (N := 52) hx hb hts (fun _ h => List.mem_cons_of_mem _ (List.mem_append_right _ h)) hown hK hP 0 rfl rfl 9 kc_l_9_52 (hts (.fieldLink RX10 147 "NotEndedModel" "begins" "I") (List.mem_cons_of_mem _ (List.mem_append_left _ (List.mem_of_getElem? (i := 3) rfl)))) (fun _ h9 => h9) rfl dX10_look_59 ?_
            refine lv_aload_n hx hb dX10_look_62 rfl (lv_at hl 0 rfl) ?_
            refine va_get (D := (dC, dI)) (ci := 10) (v := .int (nI (i))) (C := RX10) (T := TX10) (N := 52) hx hb hts (fun _ h => List.mem_cons_of_mem _ (List.mem_append_right _ h)) hown hK hP 0 rfl rfl 11 kc_l_11_52 (hts (.fieldLink RX10 141 "NotEndedModel" "at" "I") (List.mem_cons_of_mem _ (List.mem_append_left _ (List.mem_of_getElem? (i := 0) rfl)))) (fun _ h9 => h9) rfl dX10_look_63 ?_
            refine lv_iadd hx hb dX10_look_66 ?_
            refine lv_topi (fun y_25 ey_25 => ?_)
            obtain rfl : y_25 = nI (be + i) := ey_25.trans (nI_add (be) (i))
            refine va_bald hx hb hK hP 1 0 rfl rfl (vp_in_nI (n := be + i) (N := nT) bd_18 bd_19) dX10_look_67 ?_
            refine lv_topi (fun x_26 ex_26 => ?_)
            refine lv_sipush (v := 255) hx hb dX10_look_68 kc_s_255 ?_
            refine lv_iand hx hb dX10_look_71 ?_
            refine lv_topi (fun x_27 ex_27 => ?_)
            refine lv_goto (tgt := 76) hx hb dX10_look_72 kc_t_72_4 ?_
            have hP9 := hP
            have hD9 := hD
            have hK9 := hK
            rw [hQ]
            exact W.iret (v := x_27) hx hb hr (fun t ht hW => ⟨⟨x_27, i, rfl, ⟨Or.inr ⟨by omega, fun z9 => c_21 (by rw [ex_20, nI_clamp (by omega)]; exact z9)⟩, by omega, ivk_1_1⟩,  by rw [ht]; exact hP9, va_K.moved hW.alike hK9, hD9⟩, hS.F ht⟩) hS.2.2 dX10_look_76
        · refine lv_aload_n hx hb dX10_look_30 rfl (lv_at hl 0 rfl) ?_
          refine lv_dup hx hb dX10_look_31 rfl ?_
          refine va_get (D := (dC, dI)) (ci := 10) (v := .int (nI (i))) (C := RX10) (T := TX10) (N := 52) hx hb hts (fun _ h => List.mem_cons_of_mem _ (List.mem_append_right _ h)) hown hK hP 0 rfl rfl 11 kc_l_11_52 (hts (.fieldLink RX10 141 "NotEndedModel" "at" "I") (List.mem_cons_of_mem _ (List.mem_append_left _ (List.mem_of_getElem? (i := 0) rfl)))) (fun _ h9 => h9) rfl dX10_look_32 ?_
          refine lv_iconst (v := 1) hx hb dX10_look_35 kc_i_1 ?_
          refine lv_iadd hx hb dX10_look_36 ?_
          refine lv_topi (fun y_28 ey_28 => ?_)
          obtain rfl : y_28 = nI (i + 1) := ey_28.trans (nI_add (i) (1))
          refine va_put (D := (dC, dI)) (ci := 10) (v := .int (nI (i + 1))) (ty := tyX10 11) (C := RX10) (T := TX10) (N := 52) hx hb hts (fun _ h => List.mem_cons_of_mem _ (List.mem_append_right _ h)) tyX10 tyX10_ok nmX10 hown hK hP hD hS 0 rfl rfl 11 kc_l_11_52 (hts (.fieldLink RX10 141 "NotEndedModel" "at" "I") (List.mem_cons_of_mem _ (List.mem_append_left _ (List.mem_of_getElem? (i := 0) rfl)))) (fun _ h9 => h9) rfl (tyX10_ok 11 kc_l_11_52) rfl rfl (Nat.le_of_ble_eq_true rfl) dX10_look_37 (fun H locs hP hD hS => ?_)
          have hPD : kPD dC dI A [(jM, .inr (10, [v0, v1, v2, v3, .ref lt, .ref tx, v6, v7, v8, .int (nI (be)), .int (nI (en)), .int (nI (i + 1)), v12, v13, v14, v15, .ref q6, .ref q7, v18, v19, v20, v21, v22, v23, v24, v25, v26, v27, v28, v29, v30, v31, v32, v33, v34, v35, v36, v37, v38, v39, v40, v41, v42, v43, v44, v45, v46, v47, v48, v49, v50, v51])), (tx, .inl (cT, nT, .inl gT))] H := ⟨hP, hD⟩
          obtain ⟨hP, hD⟩ := hPD
          refine lv_goto (tgt := 0) hx hb dX10_look_40 kc_t_40_m40 ?_
          exact ih_k_1 (i + 1) (by omega) (fun z9 => absurd (by rw [← ivk_1_1 z9, ← nI_clamp (n := be + i) (by omega), ← ex_20]; exact c_21) z9.2) _ _ hP hD hS ls (lv_sub hl [0] rfl) (by omega)
  exact lp_k_1 (en - a + 1) a (by omega) (fun _ => rfl) _ _ hP hD hS ls (lv_sub hl [0] rfl) (by omega)

theorem dX10_fails_0 : decode cX10_fails 0 = .ok (.aload_n 0, 1) := kDs0 kf_42 (by decide +kernel)
theorem dX10_fails_1 : decode cX10_fails 1 = .ok (.getfield 150, 3) := kDs2 kf_180 (by decide +kernel)
theorem dX10_fails_4 : decode cX10_fails 4 = .ok (.iconst (-1), 1) := kDs0 kf_2 (by decide +kernel)
theorem dX10_fails_5 : decode cX10_fails 5 = .ok (.if_icmp .ne 11, 3) := kDs4 kf_160 (by decide +kernel)
theorem dX10_fails_16 : decode cX10_fails 16 = .ok (.iconst 0, 1) := kDs0 kf_3 (by decide +kernel)
theorem dX10_fails_17 : decode cX10_fails 17 = .ok (.ireturn, 1) := kDs0 kf_172 (by decide +kernel)
theorem dX10_fails_8 : decode cX10_fails 8 = .ok (.aload_n 0, 1) := kDs0 kf_42 (by decide +kernel)
theorem dX10_fails_9 : decode cX10_fails 9 = .ok (.aload_n 0, 1) := kDs0 kf_42 (by decide +kernel)
theorem dX10_fails_10 : decode cX10_fails 10 = .ok (.getfield 141, 3) := kDs2 kf_180 (by decide +kernel)
theorem dX10_fails_13 : decode cX10_fails 13 = .ok (.putfield 150, 3) := kDs2 kf_181 (by decide +kernel)
def w_s_fails10 : List Cond := .code yX10_fails cX10_fails 1 (some .boolean) :: ([.fieldLink RX10 150 "NotEndedModel" "fault" "I", .fieldLink RX10 141 "NotEndedModel" "at" "I"] ++ (wsX100))
theorem gw_s_fails10 : (w_s_fails10).all goodWord = true := kGc rfl (kGa (by decide +kernel) gw_wsX100)
theorem hd_X10_fails : yX10_fails.cls ≠ "java/lang/invoke/MethodHandle" ∧ yX10_fails.cls ≠ "java/lang/invoke/VarHandle" ∧ (parseMethodDescriptor yX10_fails.desc).map (fun d => d.parameters.length) = some 0 := by decide +kernel
set_option maxHeartbeats 4000000 in
set_option maxRecDepth 100000 in
theorem s_fails10 (l : Launch) (dC : Nat → ClassId) (dI : Nat → Nat → Nat) (jM : Nat) (v0 : Value) (v1 : Value) (v2 : Value) (v3 : Value) (v6 : Value) (v7 : Value) (v8 : Value) (v13 : Value) (v14 : Value) (v15 : Value) (v18 : Value) (v19 : Value) (v20 : Value) (v21 : Value) (v22 : Value) (v23 : Value) (v24 : Value) (v25 : Value) (v26 : Value) (v27 : Value) (v28 : Value) (v29 : Value) (v30 : Value) (v31 : Value) (v32 : Value) (v33 : Value) (v34 : Value) (v35 : Value) (v36 : Value) (v37 : Value) (v38 : Value) (v39 : Value) (v40 : Value) (v41 : Value) (v42 : Value) (v43 : Value) (v44 : Value) (v45 : Value) (v46 : Value) (v47 : Value) (v48 : Value) (v49 : Value) (v50 : Value) (v51 : Value) (lt : Nat) (q6 : Nat) (q7 : Nat) (tx : Nat) (be : Nat) (en : Nat) (a : Nat) (ha : a ≤ en) (hen : en ≤ 1680) (fv : Int32) (sz : Nat) : Met l yX10_fails w_s_fails10 ({ frames := 1, cells := 0, slots := 0, locals := 60 }) (kW dC dI [.ref jM] [(jM, .inr (10, [v0, v1, v2, v3, .ref lt, .ref tx, v6, v7, v8, .int (nI (be)), .int (nI (en)), .int (nI (a)), .int fv, v13, v14, v15, .ref q6, .ref q7, v18, v19, v20, v21, v22, v23, v24, v25, v26, v27, v28, v29, v30, v31, v32, v33, v34, v35, v36, v37, v38, v39, v40, v41, v42, v43, v44, v45, v46, v47, v48, v49, v50, v51]))] [] kT sz) (va_Qi (fun (r : Int32) (xf : Int32) => (r = 0 ∧ ¬ xf = -1)) (fun (xf : Int32) => fun t : State => kB dC dI [(jM, .inr (10, [v0, v1, v2, v3, .ref lt, .ref tx, v6, v7, v8, .int (nI (be)), .int (nI (en)), .int (nI (a)), .int xf, v13, v14, v15, .ref q6, .ref q7, v18, v19, v20, v21, v22, v23, v24, v25, v26, v27, v28, v29, v30, v31, v32, v33, v34, v35, v36, v37, v38, v39, v40, v41, v42, v43, v44, v45, v46, v47, v48, v49, v50, v51]))] [] (va_A [(jM, .inr (10, [v0, v1, v2, v3, .ref lt, .ref tx, v6, v7, v8, .int (nI (be)), .int (nI (en)), .int (nI (a)), .int fv, v13, v14, v15, .ref q6, .ref q7, v18, v19, v20, v21, v22, v23, v24, v25, v26, v27, v28, v29, v30, v31, v32, v33, v34, v35, v36, v37, v38, v39, v40, v41, v42, v43, v44, v45, v46, v47, v48, v49, v50, v51]))] sz) t) (va_A [(jM, .inr (10, [v0, v1, v2, v3, .ref lt, .ref tx, v6, v7, v8, .int (nI (be)), .int (nI (en)), .int (nI (a)), .int fv, v13, v14, v15, .ref q6, .ref q7, v18, v19, v20, v21, v22, v23, v24, v25, v26, v27, v28, v29, v30, v31, v32, v33, v34, v35, v36, v37, v38, v39, v40, v41, v42, v43, v44, v45, v46, v47, v48, v49, v50, v51]))] sz)) 0 0 (va_A [(jM, .inr (10, [v0, v1, v2, v3, .ref lt, .ref tx, v6, v7, v8, .int (nI (be)), .int (nI (en)), .int (nI (a)), .int fv, v13, v14, v15, .ref q6, .ref q7, v18, v19, v20, v21, v22, v23, v24, v25, v26, v27, v28, v29, v30, v31, v32, v33, v34, v35, v36, v37, v38, v39, v40, v41, v42, v43, v44, v45, v46, v47, v48, v49, v50, v51]))] sz) := by
  refine Met.ofW (cc := cX10_fails) (maxL := 1) (ret := (some .boolean)) (by decide) rfl ?_
  intro p e s m args below meth c s₁ B hml hv
  obtain ⟨rfl, hsz, hP, hK, hD0, hX⟩ := hv
  have hx := B.exec
  have hb := B.bytes
  have hr := B.returns
  have hts := atoms_spec (ws := w_s_fails10) B.pre
  have hown : s.vm.findClass RX10 = some m.cls := findClass_of_methodNamed B.named
  have hlocks := B.notSynchronized
  subst hsz
  have hD := hD0.self (sz := s.heap.size)
  generalize hAe : va_A [(jM, .inr (10, [v0, v1, v2, v3, .ref lt, .ref tx, v6, v7, v8, .int (nI (be)), .int (nI (en)), .int (nI (a)), .int fv, v13, v14, v15, .ref q6, .ref q7, v18, v19, v20, v21, v22, v23, v24, v25, v26, v27, v28, v29, v30, v31, v32, v33, v34, v35, v36, v37, v38, v39, v40, v41, v42, v43, v44, v45, v46, v47, v48, v49, v50, v51]))] s.heap.size = A at hD ⊢
  have hA : ∀ q : Nat, s.heap.size ≤ q → A q := fun q h => by rw [← hAe]; exact Or.inr h
  have hS : va_S A s.heap s.heap [] := va_S.rf
  have hP : va_P (dC, dI) vwCl [(jM, .inr (10, [v0, v1, v2, v3, .ref lt, .ref tx, v6, v7, v8, .int (nI (be)), .int (nI (en)), .int (nI (a)), .int fv, v13, v14, v15, .ref q6, .ref q7, v18, v19, v20, v21, v22, v23, v24, v25, v26, v27, v28, v29, v30, v31, v32, v33, v34, v35, v36, v37, v38, v39, v40, v41, v42, v43, v44, v45, v46, v47, v48, v49, v50, v51]))] s.heap := hP
  have hl := lv_entry ([.ref jM]) (n := 1) (Nat.le_of_ble_eq_true rfl)
  rw [lg_entry_eq]
  generalize (lg_sl ([.ref jM]) ++ List.replicate (1 - (lg_sl ([.ref jM])).length) Slot.unset).toArray = ls at hl ⊢
  have hl : lv_has ls 1 [(0, .ref jM)] := hl
  refine kQ (fun Q hQ => ?_)
  refine lv_aload_n hx hb dX10_fails_0 rfl (lv_at hl 0 rfl) ?_
  refine va_get (D := (dC, dI)) (ci := 10) (v := .int fv) (C := RX10) (T := TX10) (N := 52) hx hb hts (fun _ h => List.mem_cons_of_mem _ (List.mem_append_right _ h)) hown hK hP 0 rfl rfl 12 kc_l_12_52 (hts (.fieldLink RX10 150 "NotEndedModel" "fault" "I") (List.mem_cons_of_mem _ (List.mem_append_left _ (List.mem_of_getElem? (i := 0) rfl)))) (fun _ h9 => h9) rfl dX10_fails_1 ?_
  refine lv_iconst (v := (-1)) hx hb dX10_fails_4 kc_i_m1 ?_
  refine lv_icmp_ne (tgt := 16) hx hb dX10_fails_5 kc_t_5_11 (fun c_1 => ?_) (fun c_1 => ?_)
  · refine lv_iconst (v := 0) hx hb dX10_fails_16 kc_i_0 ?_
    have hP9 := hP
    have hD9 := hD
    have hK9 := hK
    rw [hQ]
    exact W.zret (v := 0) hx hb hr rfl (fun t ht hW => ⟨⟨0, fv, rfl, ⟨rfl, c_1⟩,  by rw [ht]; exact hP9, va_K.moved hW.alike hK9, hD9⟩, hS.F ht⟩) hS.2.2 dX10_fails_17
  · refine lv_aload_n hx hb dX10_fails_8 rfl (lv_at hl 0 rfl) ?_
    refine lv_aload_n hx hb dX10_fails_9 rfl (lv_at hl 0 rfl) ?_
    refine va_get (D := (dC, dI)) (ci := 10) (v := .int (nI (a))) (C := RX10) (T := TX10) (N := 52) hx hb hts (fun _ h => List.mem_cons_of_mem _ (List.mem_append_right _ h)) hown hK hP 0 rfl rfl 11 kc_l_11_52 (hts (.fieldLink RX10 141 "NotEndedModel" "at" "I") (List.mem_cons_of_mem _ (List.mem_append_left _ (List.mem_of_getElem? (i := 1) rfl)))) (fun _ h9 => h9) rfl dX10_fails_10 ?_
    refine va_put (D := (dC, dI)) (ci := 10) (v := .int (nI (a))) (ty := tyX10 12) (C := RX10) (T := TX10) (N := 52) hx hb hts (fun _ h => List.mem_cons_of_mem _ (List.mem_append_right _ h)) tyX10 tyX10_ok nmX10 hown hK hP hD hS 0 rfl rfl 12 kc_l_12_52 (hts (.fieldLink RX10 150 "NotEndedModel" "fault" "I") (List.mem_cons_of_mem _ (List.mem_append_left _ (List.mem_of_getElem? (i := 0) rfl)))) (fun _ h9 => h9) rfl (tyX10_ok 12 kc_l_12_52) rfl rfl (Nat.le_of_ble_eq_true rfl) dX10_fails_13 (fun H locs hP hD hS => ?_)
    have hPD : kPD dC dI A [(jM, .inr (10, [v0, v1, v2, v3, .ref lt, .ref tx, v6, v7, v8, .int (nI (be)), .int (nI (en)), .int (nI (a)), .int (nI (a)), v13, v14, v15, .ref q6, .ref q7, v18, v19, v20, v21, v22, v23, v24, v25, v26, v27, v28, v29, v30, v31, v32, v33, v34, v35, v36, v37, v38, v39, v40, v41, v42, v43, v44, v45, v46, v47, v48, v49, v50, v51]))] H := ⟨hP, hD⟩
    obtain ⟨hP, hD⟩ := hPD
    refine lv_iconst (v := 0) hx hb dX10_fails_16 kc_i_0 ?_
    have hP9 := hP
    have hD9 := hD
    have hK9 := hK
    rw [hQ]
    exact W.zret (v := 0) hx hb hr rfl (fun t ht hW => ⟨⟨0, (nI (a)), rfl, ⟨rfl, kNeM (by omega)⟩,  by rw [ht]; exact hP9, va_K.moved hW.alike hK9, hD9⟩, hS.F ht⟩) hS.2.2 dX10_fails_17

theorem dX10_goesIn_0 : decode cX10_goesIn 0 = .ok (.aload_n 0, 1) := kDs0 kf_42 (by decide +kernel)
theorem dX10_goesIn_1 : decode cX10_goesIn 1 = .ok (.getfield 153, 3) := kDs2 kf_180 (by decide +kernel)
theorem dX10_goesIn_4 : decode cX10_goesIn 4 = .ok (.bipush 6, 2) := kDs3 kf_16 (by decide +kernel)
theorem dX10_goesIn_6 : decode cX10_goesIn 6 = .ok (.if_icmp .ne 8, 3) := kDs4 kf_160 (by decide +kernel)
theorem dX10_goesIn_14 : decode cX10_goesIn 14 = .ok (.aload_n 0, 1) := kDs0 kf_42 (by decide +kernel)
theorem dX10_goesIn_15 : decode cX10_goesIn 15 = .ok (.dup, 1) := kDs0 kf_89 (by decide +kernel)
theorem dX10_goesIn_16 : decode cX10_goesIn 16 = .ok (.getfield 153, 3) := kDs2 kf_180 (by decide +kernel)
theorem dX10_goesIn_19 : decode cX10_goesIn 19 = .ok (.iconst 1, 1) := kDs0 kf_4 (by decide +kernel)
theorem dX10_goesIn_20 : decode cX10_goesIn 20 = .ok (.iadd, 1) := kDs0 kf_96 (by decide +kernel)
theorem dX10_goesIn_21 : decode cX10_goesIn 21 = .ok (.putfield 153, 3) := kDs2 kf_181 (by decide +kernel)
theorem dX10_goesIn_24 : decode cX10_goesIn 24 = .ok (.aload_n 0, 1) := kDs0 kf_42 (by decide +kernel)
theorem dX10_goesIn_25 : decode cX10_goesIn 25 = .ok (.dup, 1) := kDs0 kf_89 (by decide +kernel)
theorem dX10_goesIn_26 : decode cX10_goesIn 26 = .ok (.getfield 141, 3) := kDs2 kf_180 (by decide +kernel)
theorem dX10_goesIn_29 : decode cX10_goesIn 29 = .ok (.iconst 1, 1) := kDs0 kf_4 (by decide +kernel)
theorem dX10_goesIn_30 : decode cX10_goesIn 30 = .ok (.iadd, 1) := kDs0 kf_96 (by decide +kernel)
theorem dX10_goesIn_31 : decode cX10_goesIn 31 = .ok (.putfield 141, 3) := kDs2 kf_181 (by decide +kernel)
theorem dX10_goesIn_34 : decode cX10_goesIn 34 = .ok (.iconst 1, 1) := kDs0 kf_4 (by decide +kernel)
theorem dX10_goesIn_35 : decode cX10_goesIn 35 = .ok (.ireturn, 1) := kDs0 kf_172 (by decide +kernel)
def w_s_goesIn10_0 : List Cond := .code yX10_goesIn cX10_goesIn 1 (some .boolean) :: ([.fieldLink RX10 153 "NotEndedModel" "deep" "I", .fieldLink RX10 141 "NotEndedModel" "at" "I"] ++ (wsX100))
theorem gw_s_goesIn10_0 : (w_s_goesIn10_0).all goodWord = true := kGc rfl (kGa (by decide +kernel) gw_wsX100)
theorem hd_X10_goesIn : yX10_goesIn.cls ≠ "java/lang/invoke/MethodHandle" ∧ yX10_goesIn.cls ≠ "java/lang/invoke/VarHandle" ∧ (parseMethodDescriptor yX10_goesIn.desc).map (fun d => d.parameters.length) = some 0 := by decide +kernel
set_option maxHeartbeats 4000000 in
set_option maxRecDepth 100000 in
theorem s_goesIn10_0 (l : Launch) (dC : Nat → ClassId) (dI : Nat → Nat → Nat) (jM : Nat) (v0 : Value) (v1 : Value) (v2 : Value) (v3 : Value) (v6 : Value) (v7 : Value) (v8 : Value) (v12 : Value) (v14 : Value) (v15 : Value) (v18 : Value) (v19 : Value) (v20 : Value) (v21 : Value) (v22 : Value) (v23 : Value) (v24 : Value) (v25 : Value) (v26 : Value) (v27 : Value) (v28 : Value) (v29 : Value) (v30 : Value) (v31 : Value) (v32 : Value) (v33 : Value) (v34 : Value) (v35 : Value) (v36 : Value) (v37 : Value) (v38 : Value) (v39 : Value) (v40 : Value) (v41 : Value) (v42 : Value) (v43 : Value) (v44 : Value) (v45 : Value) (v46 : Value) (v47 : Value) (v48 : Value) (v49 : Value) (v50 : Value) (v51 : Value) (lt : Nat) (q6 : Nat) (q7 : Nat) (tx : Nat) (be : Nat) (en : Nat) (a : Nat) (ha : a ≤ en) (hen : en ≤ 1680) (hlt : a < en) (sz : Nat) : Met l yX10_goesIn w_s_goesIn10_0 ({ frames := 2, cells := 0, slots := 0, locals := 120 }) (kW dC dI [.ref jM] [(jM, .inr (10, [v0, v1, v2, v3, .ref lt, .ref tx, v6, v7, v8, .int (nI (be)), .int (nI (en)), .int (nI (a)), v12, .int 0, v14, v15, .ref q6, .ref q7, v18, v19, v20, v21, v22, v23, v24, v25, v26, v27, v28, v29, v30, v31, v32, v33, v34, v35, v36, v37, v38, v39, v40, v41, v42, v43, v44, v45, v46, v47, v48, v49, v50, v51]))] [] kT sz) (va_Qi (fun (r : Int32) (_ : Unit) => r = 1) (fun (_ : Unit) => fun t : State => kB dC dI [(jM, .inr (10, [v0, v1, v2, v3, .ref lt, .ref tx, v6, v7, v8, .int (nI (be)), .int (nI (en)), .int (nI (a + 1)), v12, .int 1, v14, v15, .ref q6, .ref q7, v18, v19, v20, v21, v22, v23, v24, v25, v26, v27, v28, v29, v30, v31, v32, v33, v34, v35, v36, v37, v38, v39, v40, v41, v42, v43, v44, v45, v46, v47, v48, v49, v50, v51]))] [] (va_A [(jM, .inr (10, [v0, v1, v2, v3, .ref lt, .ref tx, v6, v7, v8, .int (nI (be)), .int (nI (en)), .int (nI (a)), v12, .int 0, v14, v15, .ref q6, .ref q7, v18, v19, v20, v21, v22, v23, v24, v25, v26, v27, v28, v29, v30, v31, v32, v33, v34, v35, v36, v37, v38, v39, v40, v41, v42, v43, v44, v45, v46, v47, v48, v49, v50, v51]))] sz) t) (va_A [(jM, .inr (10, [v0, v1, v2, v3, .ref lt, .ref tx, v6, v7, v8, .int (nI (be)), .int (nI (en)), .int (nI (a)), v12, .int 0, v14, v15, .ref q6, .ref q7, v18, v19, v20, v21, v22, v23, v24, v25, v26, v27, v28, v29, v30, v31, v32, v33, v34, v35, v36, v37, v38, v39, v40, v41, v42, v43, v44, v45, v46, v47, v48, v49, v50, v51]))] sz)) 0 0 (va_A [(jM, .inr (10, [v0, v1, v2, v3, .ref lt, .ref tx, v6, v7, v8, .int (nI (be)), .int (nI (en)), .int (nI (a)), v12, .int 0, v14, v15, .ref q6, .ref q7, v18, v19, v20, v21, v22, v23, v24, v25, v26, v27, v28, v29, v30, v31, v32, v33, v34, v35, v36, v37, v38, v39, v40, v41, v42, v43, v44, v45, v46, v47, v48, v49, v50, v51]))] sz) := by
  refine Met.ofW (cc := cX10_goesIn) (maxL := 1) (ret := (some .boolean)) (by decide) rfl ?_
  intro p e s m args below meth c s₁ B hml hv
  obtain ⟨rfl, hsz, hP, hK, hD0, hX⟩ := hv
  have hx := B.exec
  have hb := B.bytes
  have hr := B.returns
  have hts := atoms_spec (ws := w_s_goesIn10_0) B.pre
  have hown : s.vm.findClass RX10 = some m.cls := findClass_of_methodNamed B.named
  have hlocks := B.notSynchronized
  subst hsz
  have hD := hD0.self (sz := s.heap.size)
  generalize hAe : va_A [(jM, .inr (10, [v0, v1, v2, v3, .ref lt, .ref tx, v6, v7, v8, .int (nI (be)), .int (nI (en)), .int (nI (a)), v12, .int 0, v14, v15, .ref q6, .ref q7, v18, v19, v20, v21, v22, v23, v24, v25, v26, v27, v28, v29, v30, v31, v32, v33, v34, v35, v36, v37, v38, v39, v40, v41, v42, v43, v44, v45, v46, v47, v48, v49, v50, v51]))] s.heap.size = A at hD ⊢
  have hA : ∀ q : Nat, s.heap.size ≤ q → A q := fun q h => by rw [← hAe]; exact Or.inr h
  have hS : va_S A s.heap s.heap [] := va_S.rf
  have hP : va_P (dC, dI) vwCl [(jM, .inr (10, [v0, v1, v2, v3, .ref lt, .ref tx, v6, v7, v8, .int (nI (be)), .int (nI (en)), .int (nI (a)), v12, .int 0, v14, v15, .ref q6, .ref q7, v18, v19, v20, v21, v22, v23, v24, v25, v26, v27, v28, v29, v30, v31, v32, v33, v34, v35, v36, v37, v38, v39, v40, v41, v42, v43, v44, v45, v46, v47, v48, v49, v50, v51]))] s.heap := hP
  have hl := lv_entry ([.ref jM]) (n := 1) (Nat.le_of_ble_eq_true rfl)
  rw [lg_entry_eq]
  generalize (lg_sl ([.ref jM]) ++ List.replicate (1 - (lg_sl ([.ref jM])).length) Slot.unset).toArray = ls at hl ⊢
  have hl : lv_has ls 1 [(0, .ref jM)] := hl
  refine kQ (fun Q hQ => ?_)
  refine lv_aload_n hx hb dX10_goesIn_0 rfl (lv_at hl 0 rfl) ?_
  refine va_get (D := (dC, dI)) (ci := 10) (v := .int 0) (C := RX10) (T := TX10) (N := 52) hx hb hts (fun _ h => List.mem_cons_of_mem _ (List.mem_append_right _ h)) hown hK hP 0 rfl rfl 13 kc_l_13_52 (hts (.fieldLink RX10 153 "NotEndedModel" "deep" "I") (List.mem_cons_of_mem _ (List.mem_append_left _ (List.mem_of_getElem? (i := 0) rfl)))) (fun _ h9 => h9) rfl dX10_goesIn_1 ?_
  refine lv_bipush (v := 6) hx hb dX10_goesIn_4 kc_b_6 ?_
  refine lv_icmp_ne (tgt := 14) hx hb dX10_goesIn_6 kc_t_6_8 (fun c_1 => ?_) (fun c_1 => absurd c_1 (by decide))
  refine lv_aload_n hx hb dX10_goesIn_14 rfl (lv_at hl 0 rfl) ?_
  refine lv_dup hx hb dX10_goesIn_15 rfl ?_
  refine va_get (D := (dC, dI)) (ci := 10) (v := .int 0) (C := RX10) (T := TX10) (N := 52) hx hb hts (fun _ h => List.mem_cons_of_mem _ (List.mem_append_right _ h)) hown hK hP 0 rfl rfl 13 kc_l_13_52 (hts (.fieldLink RX10 153 "NotEndedModel" "deep" "I") (List.mem_cons_of_mem _ (List.mem_append_left _ (List.mem_of_getElem? (i := 0) rfl)))) (fun _ h9 => h9) rfl dX10_goesIn_16 ?_
  refine lv_iconst (v := 1) hx hb dX10_goesIn_19 kc_i_1 ?_
  refine lv_iadd hx hb dX10_goesIn_20 ?_
  refine lv_topi (fun y_2 ey_2 => ?_)
  obtain rfl : y_2 = 1 := ey_2.trans (by decide)
  refine va_put (D := (dC, dI)) (ci := 10) (v := .int 1) (ty := tyX10 13) (C := RX10) (T := TX10) (N := 52) hx hb hts (fun _ h => List.mem_cons_of_mem _ (List.mem_append_right _ h)) tyX10 tyX10_ok nmX10 hown hK hP hD hS 0 rfl rfl 13 kc_l_13_52 (hts (.fieldLink RX10 153 "NotEndedModel" "deep" "I") (List.mem_cons_of_mem _ (List.mem_append_left _ (List.mem_of_getElem? (i := 0) rfl)))) (fun _ h9 => h9) rfl (tyX10_ok 13 kc_l_13_52) rfl rfl (Nat.le_of_ble_eq_true rfl) dX10_goesIn_21 (fun H locs hP hD hS => ?_)
  have hPD : kPD dC dI A [(jM, .inr (10, [v0, v1, v2, v3, .ref lt, .ref tx, v6, v7, v8, .int (nI (be)), .int (nI (en)), .int (nI (a)), v12, .int 1, v14, v15, .ref q6, .ref q7, v18, v19, v20, v21, v22, v23, v24, v25, v26, v27, v28, v29, v30, v31, v32, v33, v34, v35, v36, v37, v38, v39, v40, v41, v42, v43, v44, v45, v46, v47, v48, v49, v50, v51]))] H := ⟨hP, hD⟩
  obtain ⟨hP, hD⟩ := hPD
  refine lv_aload_n hx hb dX10_goesIn_24 rfl (lv_at hl 0 rfl) ?_
  refine lv_dup hx hb dX10_goesIn_25 rfl ?_
  refine va_get (D := (dC, dI)) (ci := 10) (v := .int (nI (a))) (C := RX10) (T := TX10) (N := 52) hx hb hts (fun _ h => List.mem_cons_of_mem _ (List.mem_append_right _ h)) hown hK hP 0 rfl rfl 11 kc_l_11_52 (hts (.fieldLink RX10 141 "NotEndedModel" "at" "I") (List.mem_cons_of_mem _ (List.mem_append_left _ (List.mem_of_getElem? (i := 1) rfl)))) (fun _ h9 => h9) rfl dX10_goesIn_26 ?_
  refine lv_iconst (v := 1) hx hb dX10_goesIn_29 kc_i_1 ?_
  refine lv_iadd hx hb dX10_goesIn_30 ?_
  refine lv_topi (fun y_3 ey_3 => ?_)
  obtain rfl : y_3 = nI (a + 1) := ey_3.trans (nI_add (a) (1))
  refine va_put (D := (dC, dI)) (ci := 10) (v := .int (nI (a + 1))) (ty := tyX10 11) (C := RX10) (T := TX10) (N := 52) hx hb hts (fun _ h => List.mem_cons_of_mem _ (List.mem_append_right _ h)) tyX10 tyX10_ok nmX10 hown hK hP hD hS 0 rfl rfl 11 kc_l_11_52 (hts (.fieldLink RX10 141 "NotEndedModel" "at" "I") (List.mem_cons_of_mem _ (List.mem_append_left _ (List.mem_of_getElem? (i := 1) rfl)))) (fun _ h9 => h9) rfl (tyX10_ok 11 kc_l_11_52) rfl rfl (Nat.le_of_ble_eq_true rfl) dX10_goesIn_31 (fun H locs hP hD hS => ?_)
  have hPD : kPD dC dI A [(jM, .inr (10, [v0, v1, v2, v3, .ref lt, .ref tx, v6, v7, v8, .int (nI (be)), .int (nI (en)), .int (nI (a + 1)), v12, .int 1, v14, v15, .ref q6, .ref q7, v18, v19, v20, v21, v22, v23, v24, v25, v26, v27, v28, v29, v30, v31, v32, v33, v34, v35, v36, v37, v38, v39, v40, v41, v42, v43, v44, v45, v46, v47, v48, v49, v50, v51]))] H := ⟨hP, hD⟩
  obtain ⟨hP, hD⟩ := hPD
  refine lv_iconst (v := 1) hx hb dX10_goesIn_34 kc_i_1 ?_
  have hP9 := hP
  have hD9 := hD
  have hK9 := hK
  rw [hQ]
  exact W.zret (v := 1) hx hb hr rfl (fun t ht hW => ⟨⟨1, (), rfl, rfl,  by rw [ht]; exact hP9, va_K.moved hW.alike hK9, hD9⟩, hS.F ht⟩) hS.2.2 dX10_goesIn_35

def w_s_goesIn10_1 : List Cond := .code yX10_goesIn cX10_goesIn 1 (some .boolean) :: ([.fieldLink RX10 153 "NotEndedModel" "deep" "I", .fieldLink RX10 141 "NotEndedModel" "at" "I"] ++ (wsX100))
theorem gw_s_goesIn10_1 : (w_s_goesIn10_1).all goodWord = true := kGc rfl (kGa (by decide +kernel) gw_wsX100)
set_option maxHeartbeats 4000000 in
set_option maxRecDepth 100000 in
theorem s_goesIn10_1 (l : Launch) (dC : Nat → ClassId) (dI : Nat → Nat → Nat) (jM : Nat) (v0 : Value) (v1 : Value) (v2 : Value) (v3 : Value) (v6 : Value) (v7 : Value) (v8 : Value) (v12 : Value) (v14 : Value) (v15 : Value) (v18 : Value) (v19 : Value) (v20 : Value) (v21 : Value) (v22 : Value) (v23 : Value) (v24 : Value) (v25 : Value) (v26 : Value) (v27 : Value) (v28 : Value) (v29 : Value) (v30 : Value) (v31 : Value) (v32 : Value) (v33 : Value) (v34 : Value) (v35 : Value) (v36 : Value) (v37 : Value) (v38 : Value) (v39 : Value) (v40 : Value) (v41 : Value) (v42 : Value) (v43 : Value) (v44 : Value) (v45 : Value) (v46 : Value) (v47 : Value) (v48 : Value) (v49 : Value) (v50 : Value) (v51 : Value) (lt : Nat) (q6 : Nat) (q7 : Nat) (tx : Nat) (be : Nat) (en : Nat) (a : Nat) (ha : a ≤ en) (hen : en ≤ 1680) (hlt : a < en) (sz : Nat) : Met l yX10_goesIn w_s_goesIn10_1 ({ frames := 2, cells := 0, slots := 0, locals := 120 }) (kW dC dI [.ref jM] [(jM, .inr (10, [v0, v1, v2, v3, .ref lt, .ref tx, v6, v7, v8, .int (nI (be)), .int (nI (en)), .int (nI (a)), v12, .int 1, v14, v15, .ref q6, .ref q7, v18, v19, v20, v21, v22, v23, v24, v25, v26, v27, v28, v29, v30, v31, v32, v33, v34, v35, v36, v37, v38, v39, v40, v41, v42, v43, v44, v45, v46, v47, v48, v49, v50, v51]))] [] kT sz) (va_Qi (fun (r : Int32) (_ : Unit) => r = 1) (fun (_ : Unit) => fun t : State => kB dC dI [(jM, .inr (10, [v0, v1, v2, v3, .ref lt, .ref tx, v6, v7, v8, .int (nI (be)), .int (nI (en)), .int (nI (a + 1)), v12, .int 2, v14, v15, .ref q6, .ref q7, v18, v19, v20, v21, v22, v23, v24, v25, v26, v27, v28, v29, v30, v31, v32, v33, v34, v35, v36, v37, v38, v39, v40, v41, v42, v43, v44, v45, v46, v47, v48, v49, v50, v51]))] [] (va_A [(jM, .inr (10, [v0, v1, v2, v3, .ref lt, .ref tx, v6, v7, v8, .int (nI (be)), .int (nI (en)), .int (nI (a)), v12, .int 1, v14, v15, .ref q6, .ref q7, v18, v19, v20, v21, v22, v23, v24, v25, v26, v27, v28, v29, v30, v31, v32, v33, v34, v35, v36, v37, v38, v39, v40, v41, v42, v43, v44, v45, v46, v47, v48, v49, v50, v51]))] sz) t) (va_A [(jM, .inr (10, [v0, v1, v2, v3, .ref lt, .ref tx, v6, v7, v8, .int (nI (be)), .int (nI (en)), .int (nI (a)), v12, .int 1, v14, v15, .ref q6, .ref q7, v18, v19, v20, v21, v22, v23, v24, v25, v26, v27, v28, v29, v30, v31, v32, v33, v34, v35, v36, v37, v38, v39, v40, v41, v42, v43, v44, v45, v46, v47, v48, v49, v50, v51]))] sz)) 0 0 (va_A [(jM, .inr (10, [v0, v1, v2, v3, .ref lt, .ref tx, v6, v7, v8, .int (nI (be)), .int (nI (en)), .int (nI (a)), v12, .int 1, v14, v15, .ref q6, .ref q7, v18, v19, v20, v21, v22, v23, v24, v25, v26, v27, v28, v29, v30, v31, v32, v33, v34, v35, v36, v37, v38, v39, v40, v41, v42, v43, v44, v45, v46, v47, v48, v49, v50, v51]))] sz) := by
  refine Met.ofW (cc := cX10_goesIn) (maxL := 1) (ret := (some .boolean)) (by decide) rfl ?_
  intro p e s m args below meth c s₁ B hml hv
  obtain ⟨rfl, hsz, hP, hK, hD0, hX⟩ := hv
  have hx := B.exec
  have hb := B.bytes
  have hr := B.returns
  have hts := atoms_spec (ws := w_s_goesIn10_1) B.pre
  have hown : s.vm.findClass RX10 = some m.cls := findClass_of_methodNamed B.named
  have hlocks := B.notSynchronized
  subst hsz
  have hD := hD0.self (sz := s.heap.size)
  generalize hAe : va_A [(jM, .inr (10, [v0, v1, v2, v3, .ref lt, .ref tx, v6, v7, v8, .int (nI (be)), .int (nI (en)), .int (nI (a)), v12, .int 1, v14, v15, .ref q6, .ref q7, v18, v19, v20, v21, v22, v23, v24, v25, v26, v27, v28, v29, v30, v31, v32, v33, v34, v35, v36, v37, v38, v39, v40, v41, v42, v43, v44, v45, v46, v47, v48, v49, v50, v51]))] s.heap.size = A at hD ⊢
  have hA : ∀ q : Nat, s.heap.size ≤ q → A q := fun q h => by rw [← hAe]; exact Or.inr h
  have hS : va_S A s.heap s.heap [] := va_S.rf
  have hP : va_P (dC, dI) vwCl [(jM, .inr (10, [v0, v1, v2, v3, .ref lt, .ref tx, v6, v7, v8, .int (nI (be)), .int (nI (en)), .int (nI (a)), v12, .int 1, v14, v15, .ref q6, .ref q7, v18, v19, v20, v21, v22, v23, v24, v25, v26, v27, v28, v29, v30, v31, v32, v33, v34, v35, v36, v37, v38, v39, v40, v41, v42, v43, v44, v45, v46, v47, v48, v49, v50, v51]))] s.heap := hP
  have hl := lv_entry ([.ref jM]) (n := 1) (Nat.le_of_ble_eq_true rfl)
  rw [lg_entry_eq]
  generalize (lg_sl ([.ref jM]) ++ List.replicate (1 - (lg_sl ([.ref jM])).length) Slot.unset).toArray = ls at hl ⊢
  have hl : lv_has ls 1 [(0, .ref jM)] := hl
  refine kQ (fun Q hQ => ?_)
  refine lv_aload_n hx hb dX10_goesIn_0 rfl (lv_at hl 0 rfl) ?_
  refine va_get (D := (dC, dI)) (ci := 10) (v := .int 1) (C := RX10) (T := TX10) (N := 52) hx hb hts (fun _ h => List.mem_cons_of_mem _ (List.mem_append_right _ h)) hown hK hP 0 rfl rfl 13 kc_l_13_52 (hts (.fieldLink RX10 153 "NotEndedModel" "deep" "I") (List.mem_cons_of_mem _ (List.mem_append_left _ (List.mem_of_getElem? (i := 0) rfl)))) (fun _ h9 => h9) rfl dX10_goesIn_1 ?_
  refine lv_bipush (v := 6) hx hb dX10_goesIn_4 kc_b_6 ?_
  refine lv_icmp_ne (tgt := 14) hx hb dX10_goesIn_6 kc_t_6_8 (fun c_1 => ?_) (fun c_1 => absurd c_1 (by decide))
  refine lv_aload_n hx hb dX10_goesIn_14 rfl (lv_at hl 0 rfl) ?_
  refine lv_dup hx hb dX10_goesIn_15 rfl ?_
  refine va_get (D := (dC, dI)) (ci := 10) (v := .int 1) (C := RX10) (T := TX10) (N := 52) hx hb hts (fun _ h => List.mem_cons_of_mem _ (List.mem_append_right _ h)) hown hK hP 0 rfl rfl 13 kc_l_13_52 (hts (.fieldLink RX10 153 "NotEndedModel" "deep" "I") (List.mem_cons_of_mem _ (List.mem_append_left _ (List.mem_of_getElem? (i := 0) rfl)))) (fun _ h9 => h9) rfl dX10_goesIn_16 ?_
  refine lv_iconst (v := 1) hx hb dX10_goesIn_19 kc_i_1 ?_
  refine lv_iadd hx hb dX10_goesIn_20 ?_
  refine lv_topi (fun y_2 ey_2 => ?_)
  obtain rfl : y_2 = 2 := ey_2.trans (by decide)
  refine va_put (D := (dC, dI)) (ci := 10) (v := .int 2) (ty := tyX10 13) (C := RX10) (T := TX10) (N := 52) hx hb hts (fun _ h => List.mem_cons_of_mem _ (List.mem_append_right _ h)) tyX10 tyX10_ok nmX10 hown hK hP hD hS 0 rfl rfl 13 kc_l_13_52 (hts (.fieldLink RX10 153 "NotEndedModel" "deep" "I") (List.mem_cons_of_mem _ (List.mem_append_left _ (List.mem_of_getElem? (i := 0) rfl)))) (fun _ h9 => h9) rfl (tyX10_ok 13 kc_l_13_52) rfl rfl (Nat.le_of_ble_eq_true rfl) dX10_goesIn_21 (fun H locs hP hD hS => ?_)
  have hPD : kPD dC dI A [(jM, .inr (10, [v0, v1, v2, v3, .ref lt, .ref tx, v6, v7, v8, .int (nI (be)), .int (nI (en)), .int (nI (a)), v12, .int 2, v14, v15, .ref q6, .ref q7, v18, v19, v20, v21, v22, v23, v24, v25, v26, v27, v28, v29, v30, v31, v32, v33, v34, v35, v36, v37, v38, v39, v40, v41, v42, v43, v44, v45, v46, v47, v48, v49, v50, v51]))] H := ⟨hP, hD⟩
  obtain ⟨hP, hD⟩ := hPD
  refine lv_aload_n hx hb dX10_goesIn_24 rfl (lv_at hl 0 rfl) ?_
  refine lv_dup hx hb dX10_goesIn_25 rfl ?_
  refine va_get (D := (dC, dI)) (ci := 10) (v := .int (nI (a))) (C := RX10) (T := TX10) (N := 52) hx hb hts (fun _ h => List.mem_cons_of_mem _ (List.mem_append_right _ h)) hown hK hP 0 rfl rfl 11 kc_l_11_52 (hts (.fieldLink RX10 141 "NotEndedModel" "at" "I") (List.mem_cons_of_mem _ (List.mem_append_left _ (List.mem_of_getElem? (i := 1) rfl)))) (fun _ h9 => h9) rfl dX10_goesIn_26 ?_
  refine lv_iconst (v := 1) hx hb dX10_goesIn_29 kc_i_1 ?_
  refine lv_iadd hx hb dX10_goesIn_30 ?_
  refine lv_topi (fun y_3 ey_3 => ?_)
  obtain rfl : y_3 = nI (a + 1) := ey_3.trans (nI_add (a) (1))
  refine va_put (D := (dC, dI)) (ci := 10) (v := .int (nI (a + 1))) (ty := tyX10 11) (C := RX10) (T := TX10) (N := 52) hx hb hts (fun _ h => List.mem_cons_of_mem _ (List.mem_append_right _ h)) tyX10 tyX10_ok nmX10 hown hK hP hD hS 0 rfl rfl 11 kc_l_11_52 (hts (.fieldLink RX10 141 "NotEndedModel" "at" "I") (List.mem_cons_of_mem _ (List.mem_append_left _ (List.mem_of_getElem? (i := 1) rfl)))) (fun _ h9 => h9) rfl (tyX10_ok 11 kc_l_11_52) rfl rfl (Nat.le_of_ble_eq_true rfl) dX10_goesIn_31 (fun H locs hP hD hS => ?_)
  have hPD : kPD dC dI A [(jM, .inr (10, [v0, v1, v2, v3, .ref lt, .ref tx, v6, v7, v8, .int (nI (be)), .int (nI (en)), .int (nI (a + 1)), v12, .int 2, v14, v15, .ref q6, .ref q7, v18, v19, v20, v21, v22, v23, v24, v25, v26, v27, v28, v29, v30, v31, v32, v33, v34, v35, v36, v37, v38, v39, v40, v41, v42, v43, v44, v45, v46, v47, v48, v49, v50, v51]))] H := ⟨hP, hD⟩
  obtain ⟨hP, hD⟩ := hPD
  refine lv_iconst (v := 1) hx hb dX10_goesIn_34 kc_i_1 ?_
  have hP9 := hP
  have hD9 := hD
  have hK9 := hK
  rw [hQ]
  exact W.zret (v := 1) hx hb hr rfl (fun t ht hW => ⟨⟨1, (), rfl, rfl,  by rw [ht]; exact hP9, va_K.moved hW.alike hK9, hD9⟩, hS.F ht⟩) hS.2.2 dX10_goesIn_35

def w_s_goesIn10_2 : List Cond := .code yX10_goesIn cX10_goesIn 1 (some .boolean) :: ([.fieldLink RX10 153 "NotEndedModel" "deep" "I", .fieldLink RX10 141 "NotEndedModel" "at" "I"] ++ (wsX100))
theorem gw_s_goesIn10_2 : (w_s_goesIn10_2).all goodWord = true := kGc rfl (kGa (by decide +kernel) gw_wsX100)
set_option maxHeartbeats 4000000 in
set_option maxRecDepth 100000 in
theorem s_goesIn10_2 (l : Launch) (dC : Nat → ClassId) (dI : Nat → Nat → Nat) (jM : Nat) (v0 : Value) (v1 : Value) (v2 : Value) (v3 : Value) (v6 : Value) (v7 : Value) (v8 : Value) (v12 : Value) (v14 : Value) (v15 : Value) (v18 : Value) (v19 : Value) (v20 : Value) (v21 : Value) (v22 : Value) (v23 : Value) (v24 : Value) (v25 : Value) (v26 : Value) (v27 : Value) (v28 : Value) (v29 : Value) (v30 : Value) (v31 : Value) (v32 : Value) (v33 : Value) (v34 : Value) (v35 : Value) (v36 : Value) (v37 : Value) (v38 : Value) (v39 : Value) (v40 : Value) (v41 : Value) (v42 : Value) (v43 : Value) (v44 : Value) (v45 : Value) (v46 : Value) (v47 : Value) (v48 : Value) (v49 : Value) (v50 : Value) (v51 : Value) (lt : Nat) (q6 : Nat) (q7 : Nat) (tx : Nat) (be : Nat) (en : Nat) (a : Nat) (ha : a ≤ en) (hen : en ≤ 1680) (hlt : a < en) (sz : Nat) : Met l yX10_goesIn w_s_goesIn10_2 ({ frames := 2, cells := 0, slots := 0, locals := 120 }) (kW dC dI [.ref jM] [(jM, .inr (10, [v0, v1, v2, v3, .ref lt, .ref tx, v6, v7, v8, .int (nI (be)), .int (nI (en)), .int (nI (a)), v12, .int 2, v14, v15, .ref q6, .ref q7, v18, v19, v20, v21, v22, v23, v24, v25, v26, v27, v28, v29, v30, v31, v32, v33, v34, v35, v36, v37, v38, v39, v40, v41, v42, v43, v44, v45, v46, v47, v48, v49, v50, v51]))] [] kT sz) (va_Qi (fun (r : Int32) (_ : Unit) => r = 1) (fun (_ : Unit) => fun t : State => kB dC dI [(jM, .inr (10, [v0, v1, v2, v3, .ref lt, .ref tx, v6, v7, v8, .int (nI (be)), .int (nI (en)), .int (nI (a + 1)), v12, .int 3, v14, v15, .ref q6, .ref q7, v18, v19, v20, v21, v22, v23, v24, v25, v26, v27, v28, v29, v30, v31, v32, v33, v34, v35, v36, v37, v38, v39, v40, v41, v42, v43, v44, v45, v46, v47, v48, v49, v50, v51]))] [] (va_A [(jM, .inr (10, [v0, v1, v2, v3, .ref lt, .ref tx, v6, v7, v8, .int (nI (be)), .int (nI (en)), .int (nI (a)), v12, .int 2, v14, v15, .ref q6, .ref q7, v18, v19, v20, v21, v22, v23, v24, v25, v26, v27, v28, v29, v30, v31, v32, v33, v34, v35, v36, v37, v38, v39, v40, v41, v42, v43, v44, v45, v46, v47, v48, v49, v50, v51]))] sz) t) (va_A [(jM, .inr (10, [v0, v1, v2, v3, .ref lt, .ref tx, v6, v7, v8, .int (nI (be)), .int (nI (en)), .int (nI (a)), v12, .int 2, v14, v15, .ref q6, .ref q7, v18, v19, v20, v21, v22, v23, v24, v25, v26, v27, v28, v29, v30, v31, v32, v33, v34, v35, v36, v37, v38, v39, v40, v41, v42, v43, v44, v45, v46, v47, v48, v49, v50, v51]))] sz)) 0 0 (va_A [(jM, .inr (10, [v0, v1, v2, v3, .ref lt, .ref tx, v6, v7, v8, .int (nI (be)), .int (nI (en)), .int (nI (a)), v12, .int 2, v14, v15, .ref q6, .ref q7, v18, v19, v20, v21, v22, v23, v24, v25, v26, v27, v28, v29, v30, v31, v32, v33, v34, v35, v36, v37, v38, v39, v40, v41, v42, v43, v44, v45, v46, v47, v48, v49, v50, v51]))] sz) := by
  refine Met.ofW (cc := cX10_goesIn) (maxL := 1) (ret := (some .boolean)) (by decide) rfl ?_
  intro p e s m args below meth c s₁ B hml hv
  obtain ⟨rfl, hsz, hP, hK, hD0, hX⟩ := hv
  have hx := B.exec
  have hb := B.bytes
  have hr := B.returns
  have hts := atoms_spec (ws := w_s_goesIn10_2) B.pre
  have hown : s.vm.findClass RX10 = some m.cls := findClass_of_methodNamed B.named
  have hlocks := B.notSynchronized
  subst hsz
  have hD := hD0.self (sz := s.heap.size)
  generalize hAe : va_A [(jM, .inr (10, [v0, v1, v2, v3, .ref lt, .ref tx, v6, v7, v8, .int (nI (be)), .int (nI (en)), .int (nI (a)), v12, .int 2, v14, v15, .ref q6, .ref q7, v18, v19, v20, v21, v22, v23, v24, v25, v26, v27, v28, v29, v30, v31, v32, v33, v34, v35, v36, v37, v38, v39, v40, v41, v42, v43, v44, v45, v46, v47, v48, v49, v50, v51]))] s.heap.size = A at hD ⊢
  have hA : ∀ q : Nat, s.heap.size ≤ q → A q := fun q h => by rw [← hAe]; exact Or.inr h
  have hS : va_S A s.heap s.heap [] := va_S.rf
  have hP : va_P (dC, dI) vwCl [(jM, .inr (10, [v0, v1, v2, v3, .ref lt, .ref tx, v6, v7, v8, .int (nI (be)), .int (nI (en)), .int (nI (a)), v12, .int 2, v14, v15, .ref q6, .ref q7, v18, v19, v20, v21, v22, v23, v24, v25, v26, v27, v28, v29, v30, v31, v32, v33, v34, v35, v36, v37, v38, v39, v40, v41, v42, v43, v44, v45, v46, v47, v48, v49, v50, v51]))] s.heap := hP
  have hl := lv_entry ([.ref jM]) (n := 1) (Nat.le_of_ble_eq_true rfl)
  rw [lg_entry_eq]
  generalize (lg_sl ([.ref jM]) ++ List.replicate (1 - (lg_sl ([.ref jM])).length) Slot.unset).toArray = ls at hl ⊢
  have hl : lv_has ls 1 [(0, .ref jM)] := hl
  refine kQ (fun Q hQ => ?_)
  refine lv_aload_n hx hb dX10_goesIn_0 rfl (lv_at hl 0 rfl) ?_
  refine va_get (D := (dC, dI)) (ci := 10) (v := .int 2) (C := RX10) (T := TX10) (N := 52) hx hb hts (fun _ h => List.mem_cons_of_mem _ (List.mem_append_right _ h)) hown hK hP 0 rfl rfl 13 kc_l_13_52 (hts (.fieldLink RX10 153 "NotEndedModel" "deep" "I") (List.mem_cons_of_mem _ (List.mem_append_left _ (List.mem_of_getElem? (i := 0) rfl)))) (fun _ h9 => h9) rfl dX10_goesIn_1 ?_
  refine lv_bipush (v := 6) hx hb dX10_goesIn_4 kc_b_6 ?_
  refine lv_icmp_ne (tgt := 14) hx hb dX10_goesIn_6 kc_t_6_8 (fun c_1 => ?_) (fun c_1 => absurd c_1 (by decide))
  refine lv_aload_n hx hb dX10_goesIn_14 rfl (lv_at hl 0 rfl) ?_
  refine lv_dup hx hb dX10_goesIn_15 rfl ?_
  refine va_get (D := (dC, dI)) (ci := 10) (v := .int 2) (C := RX10) (T := TX10) (N := 52) hx hb hts (fun _ h => List.mem_cons_of_mem _ (List.mem_append_right _ h)) hown hK hP 0 rfl rfl 13 kc_l_13_52 (hts (.fieldLink RX10 153 "NotEndedModel" "deep" "I") (List.mem_cons_of_mem _ (List.mem_append_left _ (List.mem_of_getElem? (i := 0) rfl)))) (fun _ h9 => h9) rfl dX10_goesIn_16 ?_
  refine lv_iconst (v := 1) hx hb dX10_goesIn_19 kc_i_1 ?_
  refine lv_iadd hx hb dX10_goesIn_20 ?_
  refine lv_topi (fun y_2 ey_2 => ?_)
  obtain rfl : y_2 = 3 := ey_2.trans (by decide)
  refine va_put (D := (dC, dI)) (ci := 10) (v := .int 3) (ty := tyX10 13) (C := RX10) (T := TX10) (N := 52) hx hb hts (fun _ h => List.mem_cons_of_mem _ (List.mem_append_right _ h)) tyX10 tyX10_ok nmX10 hown hK hP hD hS 0 rfl rfl 13 kc_l_13_52 (hts (.fieldLink RX10 153 "NotEndedModel" "deep" "I") (List.mem_cons_of_mem _ (List.mem_append_left _ (List.mem_of_getElem? (i := 0) rfl)))) (fun _ h9 => h9) rfl (tyX10_ok 13 kc_l_13_52) rfl rfl (Nat.le_of_ble_eq_true rfl) dX10_goesIn_21 (fun H locs hP hD hS => ?_)
  have hPD : kPD dC dI A [(jM, .inr (10, [v0, v1, v2, v3, .ref lt, .ref tx, v6, v7, v8, .int (nI (be)), .int (nI (en)), .int (nI (a)), v12, .int 3, v14, v15, .ref q6, .ref q7, v18, v19, v20, v21, v22, v23, v24, v25, v26, v27, v28, v29, v30, v31, v32, v33, v34, v35, v36, v37, v38, v39, v40, v41, v42, v43, v44, v45, v46, v47, v48, v49, v50, v51]))] H := ⟨hP, hD⟩
  obtain ⟨hP, hD⟩ := hPD
  refine lv_aload_n hx hb dX10_goesIn_24 rfl (lv_at hl 0 rfl) ?_
  refine lv_dup hx hb dX10_goesIn_25 rfl ?_
  refine va_get (D := (dC, dI)) (ci := 10) (v := .int (nI (a))) (C := RX10) (T := TX10) (N := 52) hx hb hts (fun _ h => List.mem_cons_of_mem _ (List.mem_append_right _ h)) hown hK hP 0 rfl rfl 11 kc_l_11_52 (hts (.fieldLink RX10 141 "NotEndedModel" "at" "I") (List.mem_cons_of_mem _ (List.mem_append_left _ (List.mem_of_getElem? (i := 1) rfl)))) (fun _ h9 => h9) rfl dX10_goesIn_26 ?_
  refine lv_iconst (v := 1) hx hb dX10_goesIn_29 kc_i_1 ?_
  refine lv_iadd hx hb dX10_goesIn_30 ?_
  refine lv_topi (fun y_3 ey_3 => ?_)
  obtain rfl : y_3 = nI (a + 1) := ey_3.trans (nI_add (a) (1))
  refine va_put (D := (dC, dI)) (ci := 10) (v := .int (nI (a + 1))) (ty := tyX10 11) (C := RX10) (T := TX10) (N := 52) hx hb hts (fun _ h => List.mem_cons_of_mem _ (List.mem_append_right _ h)) tyX10 tyX10_ok nmX10 hown hK hP hD hS 0 rfl rfl 11 kc_l_11_52 (hts (.fieldLink RX10 141 "NotEndedModel" "at" "I") (List.mem_cons_of_mem _ (List.mem_append_left _ (List.mem_of_getElem? (i := 1) rfl)))) (fun _ h9 => h9) rfl (tyX10_ok 11 kc_l_11_52) rfl rfl (Nat.le_of_ble_eq_true rfl) dX10_goesIn_31 (fun H locs hP hD hS => ?_)
  have hPD : kPD dC dI A [(jM, .inr (10, [v0, v1, v2, v3, .ref lt, .ref tx, v6, v7, v8, .int (nI (be)), .int (nI (en)), .int (nI (a + 1)), v12, .int 3, v14, v15, .ref q6, .ref q7, v18, v19, v20, v21, v22, v23, v24, v25, v26, v27, v28, v29, v30, v31, v32, v33, v34, v35, v36, v37, v38, v39, v40, v41, v42, v43, v44, v45, v46, v47, v48, v49, v50, v51]))] H := ⟨hP, hD⟩
  obtain ⟨hP, hD⟩ := hPD
  refine lv_iconst (v := 1) hx hb dX10_goesIn_34 kc_i_1 ?_
  have hP9 := hP
  have hD9 := hD
  have hK9 := hK
  rw [hQ]
  exact W.zret (v := 1) hx hb hr rfl (fun t ht hW => ⟨⟨1, (), rfl, rfl,  by rw [ht]; exact hP9, va_K.moved hW.alike hK9, hD9⟩, hS.F ht⟩) hS.2.2 dX10_goesIn_35

def w_s_goesIn10_3 : List Cond := .code yX10_goesIn cX10_goesIn 1 (some .boolean) :: ([.fieldLink RX10 153 "NotEndedModel" "deep" "I", .fieldLink RX10 141 "NotEndedModel" "at" "I"] ++ (wsX100))
theorem gw_s_goesIn10_3 : (w_s_goesIn10_3).all goodWord = true := kGc rfl (kGa (by decide +kernel) gw_wsX100)
set_option maxHeartbeats 4000000 in
set_option maxRecDepth 100000 in
theorem s_goesIn10_3 (l : Launch) (dC : Nat → ClassId) (dI : Nat → Nat → Nat) (jM : Nat) (v0 : Value) (v1 : Value) (v2 : Value) (v3 : Value) (v6 : Value) (v7 : Value) (v8 : Value) (v12 : Value) (v14 : Value) (v15 : Value) (v18 : Value) (v19 : Value) (v20 : Value) (v21 : Value) (v22 : Value) (v23 : Value) (v24 : Value) (v25 : Value) (v26 : Value) (v27 : Value) (v28 : Value) (v29 : Value) (v30 : Value) (v31 : Value) (v32 : Value) (v33 : Value) (v34 : Value) (v35 : Value) (v36 : Value) (v37 : Value) (v38 : Value) (v39 : Value) (v40 : Value) (v41 : Value) (v42 : Value) (v43 : Value) (v44 : Value) (v45 : Value) (v46 : Value) (v47 : Value) (v48 : Value) (v49 : Value) (v50 : Value) (v51 : Value) (lt : Nat) (q6 : Nat) (q7 : Nat) (tx : Nat) (be : Nat) (en : Nat) (a : Nat) (ha : a ≤ en) (hen : en ≤ 1680) (hlt : a < en) (sz : Nat) : Met l yX10_goesIn w_s_goesIn10_3 ({ frames := 2, cells := 0, slots := 0, locals := 120 }) (kW dC dI [.ref jM] [(jM, .inr (10, [v0, v1, v2, v3, .ref lt, .ref tx, v6, v7, v8, .int (nI (be)), .int (nI (en)), .int (nI (a)), v12, .int 3, v14, v15, .ref q6, .ref q7, v18, v19, v20, v21, v22, v23, v24, v25, v26, v27, v28, v29, v30, v31, v32, v33, v34, v35, v36, v37, v38, v39, v40, v41, v42, v43, v44, v45, v46, v47, v48, v49, v50, v51]))] [] kT sz) (va_Qi (fun (r : Int32) (_ : Unit) => r = 1) (fun (_ : Unit) => fun t : State => kB dC dI [(jM, .inr (10, [v0, v1, v2, v3, .ref lt, .ref tx, v6, v7, v8, .int (nI (be)), .int (nI (en)), .int (nI (a + 1)), v12, .int 4, v14, v15, .ref q6, .ref q7, v18, v19, v20, v21, v22, v23, v24, v25, v26, v27, v28, v29, v30, v31, v32, v33, v34, v35, v36, v37, v38, v39, v40, v41, v42, v43, v44, v45, v46, v47, v48, v49, v50, v51]))] [] (va_A [(jM, .inr (10, [v0, v1, v2, v3, .ref lt, .ref tx, v6, v7, v8, .int (nI (be)), .int (nI (en)), .int (nI (a)), v12, .int 3, v14, v15, .ref q6, .ref q7, v18, v19, v20, v21, v22, v23, v24, v25, v26, v27, v28, v29, v30, v31, v32, v33, v34, v35, v36, v37, v38, v39, v40, v41, v42, v43, v44, v45, v46, v47, v48, v49, v50, v51]))] sz) t) (va_A [(jM, .inr (10, [v0, v1, v2, v3, .ref lt, .ref tx, v6, v7, v8, .int (nI (be)), .int (nI (en)), .int (nI (a)), v12, .int 3, v14, v15, .ref q6, .ref q7, v18, v19, v20, v21, v22, v23, v24, v25, v26, v27, v28, v29, v30, v31, v32, v33, v34, v35, v36, v37, v38, v39, v40, v41, v42, v43, v44, v45, v46, v47, v48, v49, v50, v51]))] sz)) 0 0 (va_A [(jM, .inr (10, [v0, v1, v2, v3, .ref lt, .ref tx, v6, v7, v8, .int (nI (be)), .int (nI (en)), .int (nI (a)), v12, .int 3, v14, v15, .ref q6, .ref q7, v18, v19, v20, v21, v22, v23, v24, v25, v26, v27, v28, v29, v30, v31, v32, v33, v34, v35, v36, v37, v38, v39, v40, v41, v42, v43, v44, v45, v46, v47, v48, v49, v50, v51]))] sz) := by
  refine Met.ofW (cc := cX10_goesIn) (maxL := 1) (ret := (some .boolean)) (by decide) rfl ?_
  intro p e s m args below meth c s₁ B hml hv
  obtain ⟨rfl, hsz, hP, hK, hD0, hX⟩ := hv
  have hx := B.exec
  have hb := B.bytes
  have hr := B.returns
  have hts := atoms_spec (ws := w_s_goesIn10_3) B.pre
  have hown : s.vm.findClass RX10 = some m.cls := findClass_of_methodNamed B.named
  have hlocks := B.notSynchronized
  subst hsz
  have hD := hD0.self (sz := s.heap.size)
  generalize hAe : va_A [(jM, .inr (10, [v0, v1, v2, v3, .ref lt, .ref tx, v6, v7, v8, .int (nI (be)), .int (nI (en)), .int (nI (a)), v12, .int 3, v14, v15, .ref q6, .ref q7, v18, v19, v20, v21, v22, v23, v24, v25, v26, v27, v28, v29, v30, v31, v32, v33, v34, v35, v36, v37, v38, v39, v40, v41, v42, v43, v44, v45, v46, v47, v48, v49, v50, v51]))] s.heap.size = A at hD ⊢
  have hA : ∀ q : Nat, s.heap.size ≤ q → A q := fun q h => by rw [← hAe]; exact Or.inr h
  have hS : va_S A s.heap s.heap [] := va_S.rf
  have hP : va_P (dC, dI) vwCl [(jM, .inr (10, [v0, v1, v2, v3, .ref lt, .ref tx, v6, v7, v8, .int (nI (be)), .int (nI (en)), .int (nI (a)), v12, .int 3, v14, v15, .ref q6, .ref q7, v18, v19, v20, v21, v22, v23, v24, v25, v26, v27, v28, v29, v30, v31, v32, v33, v34, v35, v36, v37, v38, v39, v40, v41, v42, v43, v44, v45, v46, v47, v48, v49, v50, v51]))] s.heap := hP
  have hl := lv_entry ([.ref jM]) (n := 1) (Nat.le_of_ble_eq_true rfl)
  rw [lg_entry_eq]
  generalize (lg_sl ([.ref jM]) ++ List.replicate (1 - (lg_sl ([.ref jM])).length) Slot.unset).toArray = ls at hl ⊢
  have hl : lv_has ls 1 [(0, .ref jM)] := hl
  refine kQ (fun Q hQ => ?_)
  refine lv_aload_n hx hb dX10_goesIn_0 rfl (lv_at hl 0 rfl) ?_
  refine va_get (D := (dC, dI)) (ci := 10) (v := .int 3) (C := RX10) (T := TX10) (N := 52) hx hb hts (fun _ h => List.mem_cons_of_mem _ (List.mem_append_right _ h)) hown hK hP 0 rfl rfl 13 kc_l_13_52 (hts (.fieldLink RX10 153 "NotEndedModel" "deep" "I") (List.mem_cons_of_mem _ (List.mem_append_left _ (List.mem_of_getElem? (i := 0) rfl)))) (fun _ h9 => h9) rfl dX10_goesIn_1 ?_
  refine lv_bipush (v := 6) hx hb dX10_goesIn_4 kc_b_6 ?_
  refine lv_icmp_ne (tgt := 14) hx hb dX10_goesIn_6 kc_t_6_8 (fun c_1 => ?_) (fun c_1 => absurd c_1 (by decide))
  refine lv_aload_n hx hb dX10_goesIn_14 rfl (lv_at hl 0 rfl) ?_
  refine lv_dup hx hb dX10_goesIn_15 rfl ?_
  refine va_get (D := (dC, dI)) (ci := 10) (v := .int 3) (C := RX10) (T := TX10) (N := 52) hx hb hts (fun _ h => List.mem_cons_of_mem _ (List.mem_append_right _ h)) hown hK hP 0 rfl rfl 13 kc_l_13_52 (hts (.fieldLink RX10 153 "NotEndedModel" "deep" "I") (List.mem_cons_of_mem _ (List.mem_append_left _ (List.mem_of_getElem? (i := 0) rfl)))) (fun _ h9 => h9) rfl dX10_goesIn_16 ?_
  refine lv_iconst (v := 1) hx hb dX10_goesIn_19 kc_i_1 ?_
  refine lv_iadd hx hb dX10_goesIn_20 ?_
  refine lv_topi (fun y_2 ey_2 => ?_)
  obtain rfl : y_2 = 4 := ey_2.trans (by decide)
  refine va_put (D := (dC, dI)) (ci := 10) (v := .int 4) (ty := tyX10 13) (C := RX10) (T := TX10) (N := 52) hx hb hts (fun _ h => List.mem_cons_of_mem _ (List.mem_append_right _ h)) tyX10 tyX10_ok nmX10 hown hK hP hD hS 0 rfl rfl 13 kc_l_13_52 (hts (.fieldLink RX10 153 "NotEndedModel" "deep" "I") (List.mem_cons_of_mem _ (List.mem_append_left _ (List.mem_of_getElem? (i := 0) rfl)))) (fun _ h9 => h9) rfl (tyX10_ok 13 kc_l_13_52) rfl rfl (Nat.le_of_ble_eq_true rfl) dX10_goesIn_21 (fun H locs hP hD hS => ?_)
  have hPD : kPD dC dI A [(jM, .inr (10, [v0, v1, v2, v3, .ref lt, .ref tx, v6, v7, v8, .int (nI (be)), .int (nI (en)), .int (nI (a)), v12, .int 4, v14, v15, .ref q6, .ref q7, v18, v19, v20, v21, v22, v23, v24, v25, v26, v27, v28, v29, v30, v31, v32, v33, v34, v35, v36, v37, v38, v39, v40, v41, v42, v43, v44, v45, v46, v47, v48, v49, v50, v51]))] H := ⟨hP, hD⟩
  obtain ⟨hP, hD⟩ := hPD
  refine lv_aload_n hx hb dX10_goesIn_24 rfl (lv_at hl 0 rfl) ?_
  refine lv_dup hx hb dX10_goesIn_25 rfl ?_
  refine va_get (D := (dC, dI)) (ci := 10) (v := .int (nI (a))) (C := RX10) (T := TX10) (N := 52) hx hb hts (fun _ h => List.mem_cons_of_mem _ (List.mem_append_right _ h)) hown hK hP 0 rfl rfl 11 kc_l_11_52 (hts (.fieldLink RX10 141 "NotEndedModel" "at" "I") (List.mem_cons_of_mem _ (List.mem_append_left _ (List.mem_of_getElem? (i := 1) rfl)))) (fun _ h9 => h9) rfl dX10_goesIn_26 ?_
  refine lv_iconst (v := 1) hx hb dX10_goesIn_29 kc_i_1 ?_
  refine lv_iadd hx hb dX10_goesIn_30 ?_
  refine lv_topi (fun y_3 ey_3 => ?_)
  obtain rfl : y_3 = nI (a + 1) := ey_3.trans (nI_add (a) (1))
  refine va_put (D := (dC, dI)) (ci := 10) (v := .int (nI (a + 1))) (ty := tyX10 11) (C := RX10) (T := TX10) (N := 52) hx hb hts (fun _ h => List.mem_cons_of_mem _ (List.mem_append_right _ h)) tyX10 tyX10_ok nmX10 hown hK hP hD hS 0 rfl rfl 11 kc_l_11_52 (hts (.fieldLink RX10 141 "NotEndedModel" "at" "I") (List.mem_cons_of_mem _ (List.mem_append_left _ (List.mem_of_getElem? (i := 1) rfl)))) (fun _ h9 => h9) rfl (tyX10_ok 11 kc_l_11_52) rfl rfl (Nat.le_of_ble_eq_true rfl) dX10_goesIn_31 (fun H locs hP hD hS => ?_)
  have hPD : kPD dC dI A [(jM, .inr (10, [v0, v1, v2, v3, .ref lt, .ref tx, v6, v7, v8, .int (nI (be)), .int (nI (en)), .int (nI (a + 1)), v12, .int 4, v14, v15, .ref q6, .ref q7, v18, v19, v20, v21, v22, v23, v24, v25, v26, v27, v28, v29, v30, v31, v32, v33, v34, v35, v36, v37, v38, v39, v40, v41, v42, v43, v44, v45, v46, v47, v48, v49, v50, v51]))] H := ⟨hP, hD⟩
  obtain ⟨hP, hD⟩ := hPD
  refine lv_iconst (v := 1) hx hb dX10_goesIn_34 kc_i_1 ?_
  have hP9 := hP
  have hD9 := hD
  have hK9 := hK
  rw [hQ]
  exact W.zret (v := 1) hx hb hr rfl (fun t ht hW => ⟨⟨1, (), rfl, rfl,  by rw [ht]; exact hP9, va_K.moved hW.alike hK9, hD9⟩, hS.F ht⟩) hS.2.2 dX10_goesIn_35

def w_s_goesIn10_4 : List Cond := .code yX10_goesIn cX10_goesIn 1 (some .boolean) :: ([.fieldLink RX10 153 "NotEndedModel" "deep" "I", .fieldLink RX10 141 "NotEndedModel" "at" "I"] ++ (wsX100))
theorem gw_s_goesIn10_4 : (w_s_goesIn10_4).all goodWord = true := kGc rfl (kGa (by decide +kernel) gw_wsX100)
set_option maxHeartbeats 4000000 in
set_option maxRecDepth 100000 in
theorem s_goesIn10_4 (l : Launch) (dC : Nat → ClassId) (dI : Nat → Nat → Nat) (jM : Nat) (v0 : Value) (v1 : Value) (v2 : Value) (v3 : Value) (v6 : Value) (v7 : Value) (v8 : Value) (v12 : Value) (v14 : Value) (v15 : Value) (v18 : Value) (v19 : Value) (v20 : Value) (v21 : Value) (v22 : Value) (v23 : Value) (v24 : Value) (v25 : Value) (v26 : Value) (v27 : Value) (v28 : Value) (v29 : Value) (v30 : Value) (v31 : Value) (v32 : Value) (v33 : Value) (v34 : Value) (v35 : Value) (v36 : Value) (v37 : Value) (v38 : Value) (v39 : Value) (v40 : Value) (v41 : Value) (v42 : Value) (v43 : Value) (v44 : Value) (v45 : Value) (v46 : Value) (v47 : Value) (v48 : Value) (v49 : Value) (v50 : Value) (v51 : Value) (lt : Nat) (q6 : Nat) (q7 : Nat) (tx : Nat) (be : Nat) (en : Nat) (a : Nat) (ha : a ≤ en) (hen : en ≤ 1680) (hlt : a < en) (sz : Nat) : Met l yX10_goesIn w_s_goesIn10_4 ({ frames := 2, cells := 0, slots := 0, locals := 120 }) (kW dC dI [.ref jM] [(jM, .inr (10, [v0, v1, v2, v3, .ref lt, .ref tx, v6, v7, v8, .int (nI (be)), .int (nI (en)), .int (nI (a)), v12, .int 4, v14, v15, .ref q6, .ref q7, v18, v19, v20, v21, v22, v23, v24, v25, v26, v27, v28, v29, v30, v31, v32, v33, v34, v35, v36, v37, v38, v39, v40, v41, v42, v43, v44, v45, v46, v47, v48, v49, v50, v51]))] [] kT sz) (va_Qi (fun (r : Int32) (_ : Unit) => r = 1) (fun (_ : Unit) => fun t : State => kB dC dI [(jM, .inr (10, [v0, v1, v2, v3, .ref lt, .ref tx, v6, v7, v8, .int (nI (be)), .int (nI (en)), .int (nI (a + 1)), v12, .int 5, v14, v15, .ref q6, .ref q7, v18, v19, v20, v21, v22, v23, v24, v25, v26, v27, v28, v29, v30, v31, v32, v33, v34, v35, v36, v37, v38, v39, v40, v41, v42, v43, v44, v45, v46, v47, v48, v49, v50, v51]))] [] (va_A [(jM, .inr (10, [v0, v1, v2, v3, .ref lt, .ref tx, v6, v7, v8, .int (nI (be)), .int (nI (en)), .int (nI (a)), v12, .int 4, v14, v15, .ref q6, .ref q7, v18, v19, v20, v21, v22, v23, v24, v25, v26, v27, v28, v29, v30, v31, v32, v33, v34, v35, v36, v37, v38, v39, v40, v41, v42, v43, v44, v45, v46, v47, v48, v49, v50, v51]))] sz) t) (va_A [(jM, .inr (10, [v0, v1, v2, v3, .ref lt, .ref tx, v6, v7, v8, .int (nI (be)), .int (nI (en)), .int (nI (a)), v12, .int 4, v14, v15, .ref q6, .ref q7, v18, v19, v20, v21, v22, v23, v24, v25, v26, v27, v28, v29, v30, v31, v32, v33, v34, v35, v36, v37, v38, v39, v40, v41, v42, v43, v44, v45, v46, v47, v48, v49, v50, v51]))] sz)) 0 0 (va_A [(jM, .inr (10, [v0, v1, v2, v3, .ref lt, .ref tx, v6, v7, v8, .int (nI (be)), .int (nI (en)), .int (nI (a)), v12, .int 4, v14, v15, .ref q6, .ref q7, v18, v19, v20, v21, v22, v23, v24, v25, v26, v27, v28, v29, v30, v31, v32, v33, v34, v35, v36, v37, v38, v39, v40, v41, v42, v43, v44, v45, v46, v47, v48, v49, v50, v51]))] sz) := by
  refine Met.ofW (cc := cX10_goesIn) (maxL := 1) (ret := (some .boolean)) (by decide) rfl ?_
  intro p e s m args below meth c s₁ B hml hv
  obtain ⟨rfl, hsz, hP, hK, hD0, hX⟩ := hv
  have hx := B.exec
  have hb := B.bytes
  have hr := B.returns
  have hts := atoms_spec (ws := w_s_goesIn10_4) B.pre
  have hown : s.vm.findClass RX10 = some m.cls := findClass_of_methodNamed B.named
  have hlocks := B.notSynchronized
  subst hsz
  have hD := hD0.self (sz := s.heap.size)
  generalize hAe : va_A [(jM, .inr (10, [v0, v1, v2, v3, .ref lt, .ref tx, v6, v7, v8, .int (nI (be)), .int (nI (en)), .int (nI (a)), v12, .int 4, v14, v15, .ref q6, .ref q7, v18, v19, v20, v21, v22, v23, v24, v25, v26, v27, v28, v29, v30, v31, v32, v33, v34, v35, v36, v37, v38, v39, v40, v41, v42, v43, v44, v45, v46, v47, v48, v49, v50, v51]))] s.heap.size = A at hD ⊢
  have hA : ∀ q : Nat, s.heap.size ≤ q → A q := fun q h => by rw [← hAe]; exact Or.inr h
  have hS : va_S A s.heap s.heap [] := va_S.rf
  have hP : va_P (dC, dI) vwCl [(jM, .inr (10, [v0, v1, v2, v3, .ref lt, .ref tx, v6, v7, v8, .int (nI (be)), .int (nI (en)), .int (nI (a)), v12, .int 4, v14, v15, .ref q6, .ref q7, v18, v19, v20, v21, v22, v23, v24, v25, v26, v27, v28, v29, v30, v31, v32, v33, v34, v35, v36, v37, v38, v39, v40, v41, v42, v43, v44, v45, v46, v47, v48, v49, v50, v51]))] s.heap := hP
  have hl := lv_entry ([.ref jM]) (n := 1) (Nat.le_of_ble_eq_true rfl)
  rw [lg_entry_eq]
  generalize (lg_sl ([.ref jM]) ++ List.replicate (1 - (lg_sl ([.ref jM])).length) Slot.unset).toArray = ls at hl ⊢
  have hl : lv_has ls 1 [(0, .ref jM)] := hl
  refine kQ (fun Q hQ => ?_)
  refine lv_aload_n hx hb dX10_goesIn_0 rfl (lv_at hl 0 rfl) ?_
  refine va_get (D := (dC, dI)) (ci := 10) (v := .int 4) (C := RX10) (T := TX10) (N := 52) hx hb hts (fun _ h => List.mem_cons_of_mem _ (List.mem_append_right _ h)) hown hK hP 0 rfl rfl 13 kc_l_13_52 (hts (.fieldLink RX10 153 "NotEndedModel" "deep" "I") (List.mem_cons_of_mem _ (List.mem_append_left _ (List.mem_of_getElem? (i := 0) rfl)))) (fun _ h9 => h9) rfl dX10_goesIn_1 ?_
  refine lv_bipush (v := 6) hx hb dX10_goesIn_4 kc_b_6 ?_
  refine lv_icmp_ne (tgt := 14) hx hb dX10_goesIn_6 kc_t_6_8 (fun c_1 => ?_) (fun c_1 => absurd c_1 (by decide))
  refine lv_aload_n hx hb dX10_goesIn_14 rfl (lv_at hl 0 rfl) ?_
  refine lv_dup hx hb dX10_goesIn_15 rfl ?_
  refine va_get (D := (dC, dI)) (ci := 10) (v := .int 4) (C := RX10) (T := TX10) (N := 52) hx hb hts (fun _ h => List.mem_cons_of_mem _ (List.mem_append_right _ h)) hown hK hP 0 rfl rfl 13 kc_l_13_52 (hts (.fieldLink RX10 153 "NotEndedModel" "deep" "I") (List.mem_cons_of_mem _ (List.mem_append_left _ (List.mem_of_getElem? (i := 0) rfl)))) (fun _ h9 => h9) rfl dX10_goesIn_16 ?_
  refine lv_iconst (v := 1) hx hb dX10_goesIn_19 kc_i_1 ?_
  refine lv_iadd hx hb dX10_goesIn_20 ?_
  refine lv_topi (fun y_2 ey_2 => ?_)
  obtain rfl : y_2 = 5 := ey_2.trans (by decide)
  refine va_put (D := (dC, dI)) (ci := 10) (v := .int 5) (ty := tyX10 13) (C := RX10) (T := TX10) (N := 52) hx hb hts (fun _ h => List.mem_cons_of_mem _ (List.mem_append_right _ h)) tyX10 tyX10_ok nmX10 hown hK hP hD hS 0 rfl rfl 13 kc_l_13_52 (hts (.fieldLink RX10 153 "NotEndedModel" "deep" "I") (List.mem_cons_of_mem _ (List.mem_append_left _ (List.mem_of_getElem? (i := 0) rfl)))) (fun _ h9 => h9) rfl (tyX10_ok 13 kc_l_13_52) rfl rfl (Nat.le_of_ble_eq_true rfl) dX10_goesIn_21 (fun H locs hP hD hS => ?_)
  have hPD : kPD dC dI A [(jM, .inr (10, [v0, v1, v2, v3, .ref lt, .ref tx, v6, v7, v8, .int (nI (be)), .int (nI (en)), .int (nI (a)), v12, .int 5, v14, v15, .ref q6, .ref q7, v18, v19, v20, v21, v22, v23, v24, v25, v26, v27, v28, v29, v30, v31, v32, v33, v34, v35, v36, v37, v38, v39, v40, v41, v42, v43, v44, v45, v46, v47, v48, v49, v50, v51]))] H := ⟨hP, hD⟩
  obtain ⟨hP, hD⟩ := hPD
  refine lv_aload_n hx hb dX10_goesIn_24 rfl (lv_at hl 0 rfl) ?_
  refine lv_dup hx hb dX10_goesIn_25 rfl ?_
  refine va_get (D := (dC, dI)) (ci := 10) (v := .int (nI (a))) (C := RX10) (T := TX10) (N := 52) hx hb hts (fun _ h => List.mem_cons_of_mem _ (List.mem_append_right _ h)) hown hK hP 0 rfl rfl 11 kc_l_11_52 (hts (.fieldLink RX10 141 "NotEndedModel" "at" "I") (List.mem_cons_of_mem _ (List.mem_append_left _ (List.mem_of_getElem? (i := 1) rfl)))) (fun _ h9 => h9) rfl dX10_goesIn_26 ?_
  refine lv_iconst (v := 1) hx hb dX10_goesIn_29 kc_i_1 ?_
  refine lv_iadd hx hb dX10_goesIn_30 ?_
  refine lv_topi (fun y_3 ey_3 => ?_)
  obtain rfl : y_3 = nI (a + 1) := ey_3.trans (nI_add (a) (1))
  refine va_put (D := (dC, dI)) (ci := 10) (v := .int (nI (a + 1))) (ty := tyX10 11) (C := RX10) (T := TX10) (N := 52) hx hb hts (fun _ h => List.mem_cons_of_mem _ (List.mem_append_right _ h)) tyX10 tyX10_ok nmX10 hown hK hP hD hS 0 rfl rfl 11 kc_l_11_52 (hts (.fieldLink RX10 141 "NotEndedModel" "at" "I") (List.mem_cons_of_mem _ (List.mem_append_left _ (List.mem_of_getElem? (i := 1) rfl)))) (fun _ h9 => h9) rfl (tyX10_ok 11 kc_l_11_52) rfl rfl (Nat.le_of_ble_eq_true rfl) dX10_goesIn_31 (fun H locs hP hD hS => ?_)
  have hPD : kPD dC dI A [(jM, .inr (10, [v0, v1, v2, v3, .ref lt, .ref tx, v6, v7, v8, .int (nI (be)), .int (nI (en)), .int (nI (a + 1)), v12, .int 5, v14, v15, .ref q6, .ref q7, v18, v19, v20, v21, v22, v23, v24, v25, v26, v27, v28, v29, v30, v31, v32, v33, v34, v35, v36, v37, v38, v39, v40, v41, v42, v43, v44, v45, v46, v47, v48, v49, v50, v51]))] H := ⟨hP, hD⟩
  obtain ⟨hP, hD⟩ := hPD
  refine lv_iconst (v := 1) hx hb dX10_goesIn_34 kc_i_1 ?_
  have hP9 := hP
  have hD9 := hD
  have hK9 := hK
  rw [hQ]
  exact W.zret (v := 1) hx hb hr rfl (fun t ht hW => ⟨⟨1, (), rfl, rfl,  by rw [ht]; exact hP9, va_K.moved hW.alike hK9, hD9⟩, hS.F ht⟩) hS.2.2 dX10_goesIn_35

def w_s_goesIn10_5 : List Cond := .code yX10_goesIn cX10_goesIn 1 (some .boolean) :: ([.fieldLink RX10 153 "NotEndedModel" "deep" "I", .fieldLink RX10 141 "NotEndedModel" "at" "I"] ++ (wsX100))
theorem gw_s_goesIn10_5 : (w_s_goesIn10_5).all goodWord = true := kGc rfl (kGa (by decide +kernel) gw_wsX100)
set_option maxHeartbeats 4000000 in
set_option maxRecDepth 100000 in
theorem s_goesIn10_5 (l : Launch) (dC : Nat → ClassId) (dI : Nat → Nat → Nat) (jM : Nat) (v0 : Value) (v1 : Value) (v2 : Value) (v3 : Value) (v6 : Value) (v7 : Value) (v8 : Value) (v12 : Value) (v14 : Value) (v15 : Value) (v18 : Value) (v19 : Value) (v20 : Value) (v21 : Value) (v22 : Value) (v23 : Value) (v24 : Value) (v25 : Value) (v26 : Value) (v27 : Value) (v28 : Value) (v29 : Value) (v30 : Value) (v31 : Value) (v32 : Value) (v33 : Value) (v34 : Value) (v35 : Value) (v36 : Value) (v37 : Value) (v38 : Value) (v39 : Value) (v40 : Value) (v41 : Value) (v42 : Value) (v43 : Value) (v44 : Value) (v45 : Value) (v46 : Value) (v47 : Value) (v48 : Value) (v49 : Value) (v50 : Value) (v51 : Value) (lt : Nat) (q6 : Nat) (q7 : Nat) (tx : Nat) (be : Nat) (en : Nat) (a : Nat) (ha : a ≤ en) (hen : en ≤ 1680) (hlt : a < en) (sz : Nat) : Met l yX10_goesIn w_s_goesIn10_5 ({ frames := 2, cells := 0, slots := 0, locals := 120 }) (kW dC dI [.ref jM] [(jM, .inr (10, [v0, v1, v2, v3, .ref lt, .ref tx, v6, v7, v8, .int (nI (be)), .int (nI (en)), .int (nI (a)), v12, .int 5, v14, v15, .ref q6, .ref q7, v18, v19, v20, v21, v22, v23, v24, v25, v26, v27, v28, v29, v30, v31, v32, v33, v34, v35, v36, v37, v38, v39, v40, v41, v42, v43, v44, v45, v46, v47, v48, v49, v50, v51]))] [] kT sz) (va_Qi (fun (r : Int32) (_ : Unit) => r = 1) (fun (_ : Unit) => fun t : State => kB dC dI [(jM, .inr (10, [v0, v1, v2, v3, .ref lt, .ref tx, v6, v7, v8, .int (nI (be)), .int (nI (en)), .int (nI (a + 1)), v12, .int 6, v14, v15, .ref q6, .ref q7, v18, v19, v20, v21, v22, v23, v24, v25, v26, v27, v28, v29, v30, v31, v32, v33, v34, v35, v36, v37, v38, v39, v40, v41, v42, v43, v44, v45, v46, v47, v48, v49, v50, v51]))] [] (va_A [(jM, .inr (10, [v0, v1, v2, v3, .ref lt, .ref tx, v6, v7, v8, .int (nI (be)), .int (nI (en)), .int (nI (a)), v12, .int 5, v14, v15, .ref q6, .ref q7, v18, v19, v20, v21, v22, v23, v24, v25, v26, v27, v28, v29, v30, v31, v32, v33, v34, v35, v36, v37, v38, v39, v40, v41, v42, v43, v44, v45, v46, v47, v48, v49, v50, v51]))] sz) t) (va_A [(jM, .inr (10, [v0, v1, v2, v3, .ref lt, .ref tx, v6, v7, v8, .int (nI (be)), .int (nI (en)), .int (nI (a)), v12, .int 5, v14, v15, .ref q6, .ref q7, v18, v19, v20, v21, v22, v23, v24, v25, v26, v27, v28, v29, v30, v31, v32, v33, v34, v35, v36, v37, v38, v39, v40, v41, v42, v43, v44, v45, v46, v47, v48, v49, v50, v51]))] sz)) 0 0 (va_A [(jM, .inr (10, [v0, v1, v2, v3, .ref lt, .ref tx, v6, v7, v8, .int (nI (be)), .int (nI (en)), .int (nI (a)), v12, .int 5, v14, v15, .ref q6, .ref q7, v18, v19, v20, v21, v22, v23, v24, v25, v26, v27, v28, v29, v30, v31, v32, v33, v34, v35, v36, v37, v38, v39, v40, v41, v42, v43, v44, v45, v46, v47, v48, v49, v50, v51]))] sz) := by
  refine Met.ofW (cc := cX10_goesIn) (maxL := 1) (ret := (some .boolean)) (by decide) rfl ?_
  intro p e s m args below meth c s₁ B hml hv
  obtain ⟨rfl, hsz, hP, hK, hD0, hX⟩ := hv
  have hx := B.exec
  have hb := B.bytes
  have hr := B.returns
  have hts := atoms_spec (ws := w_s_goesIn10_5) B.pre
  have hown : s.vm.findClass RX10 = some m.cls := findClass_of_methodNamed B.named
  have hlocks := B.notSynchronized
  subst hsz
  have hD := hD0.self (sz := s.heap.size)
  generalize hAe : va_A [(jM, .inr (10, [v0, v1, v2, v3, .ref lt, .ref tx, v6, v7, v8, .int (nI (be)), .int (nI (en)), .int (nI (a)), v12, .int 5, v14, v15, .ref q6, .ref q7, v18, v19, v20, v21, v22, v23, v24, v25, v26, v27, v28, v29, v30, v31, v32, v33, v34, v35, v36, v37, v38, v39, v40, v41, v42, v43, v44, v45, v46, v47, v48, v49, v50, v51]))] s.heap.size = A at hD ⊢
  have hA : ∀ q : Nat, s.heap.size ≤ q → A q := fun q h => by rw [← hAe]; exact Or.inr h
  have hS : va_S A s.heap s.heap [] := va_S.rf
  have hP : va_P (dC, dI) vwCl [(jM, .inr (10, [v0, v1, v2, v3, .ref lt, .ref tx, v6, v7, v8, .int (nI (be)), .int (nI (en)), .int (nI (a)), v12, .int 5, v14, v15, .ref q6, .ref q7, v18, v19, v20, v21, v22, v23, v24, v25, v26, v27, v28, v29, v30, v31, v32, v33, v34, v35, v36, v37, v38, v39, v40, v41, v42, v43, v44, v45, v46, v47, v48, v49, v50, v51]))] s.heap := hP
  have hl := lv_entry ([.ref jM]) (n := 1) (Nat.le_of_ble_eq_true rfl)
  rw [lg_entry_eq]
  generalize (lg_sl ([.ref jM]) ++ List.replicate (1 - (lg_sl ([.ref jM])).length) Slot.unset).toArray = ls at hl ⊢
  have hl : lv_has ls 1 [(0, .ref jM)] := hl
  refine kQ (fun Q hQ => ?_)
  refine lv_aload_n hx hb dX10_goesIn_0 rfl (lv_at hl 0 rfl) ?_
  refine va_get (D := (dC, dI)) (ci := 10) (v := .int 5) (C := RX10) (T := TX10) (N := 52) hx hb hts (fun _ h => List.mem_cons_of_mem _ (List.mem_append_right _ h)) hown hK hP 0 rfl rfl 13 kc_l_13_52 (hts (.fieldLink RX10 153 "NotEndedModel" "deep" "I") (List.mem_cons_of_mem _ (List.mem_append_left _ (List.mem_of_getElem? (i := 0) rfl)))) (fun _ h9 => h9) rfl dX10_goesIn_1 ?_
  refine lv_bipush (v := 6) hx hb dX10_goesIn_4 kc_b_6 ?_
  refine lv_icmp_ne (tgt := 14) hx hb dX10_goesIn_6 kc_t_6_8 (fun c_1 => ?_) (fun c_1 => absurd c_1 (by decide))
  refine lv_aload_n hx hb dX10_goesIn_14 rfl (lv_at hl 0 rfl) ?_
  refine lv_dup hx hb dX10_goesIn_15 rfl ?_
  refine va_get (D := (dC, dI)) (ci := 10) (v := .int 5) (C := RX10) (T := TX10) (N := 52) hx hb hts (fun _ h => List.mem_cons_of_mem _ (List.mem_append_right _ h)) hown hK hP 0 rfl rfl 13 kc_l_13_52 (hts (.fieldLink RX10 153 "NotEndedModel" "deep" "I") (List.mem_cons_of_mem _ (List.mem_append_left _ (List.mem_of_getElem? (i := 0) rfl)))) (fun _ h9 => h9) rfl dX10_goesIn_16 ?_
  refine lv_iconst (v := 1) hx hb dX10_goesIn_19 kc_i_1 ?_
  refine lv_iadd hx hb dX10_goesIn_20 ?_
  refine lv_topi (fun y_2 ey_2 => ?_)
  obtain rfl : y_2 = 6 := ey_2.trans (by decide)
  refine va_put (D := (dC, dI)) (ci := 10) (v := .int 6) (ty := tyX10 13) (C := RX10) (T := TX10) (N := 52) hx hb hts (fun _ h => List.mem_cons_of_mem _ (List.mem_append_right _ h)) tyX10 tyX10_ok nmX10 hown hK hP hD hS 0 rfl rfl 13 kc_l_13_52 (hts (.fieldLink RX10 153 "NotEndedModel" "deep" "I") (List.mem_cons_of_mem _ (List.mem_append_left _ (List.mem_of_getElem? (i := 0) rfl)))) (fun _ h9 => h9) rfl (tyX10_ok 13 kc_l_13_52) rfl rfl (Nat.le_of_ble_eq_true rfl) dX10_goesIn_21 (fun H locs hP hD hS => ?_)
  have hPD : kPD dC dI A [(jM, .inr (10, [v0, v1, v2, v3, .ref lt, .ref tx, v6, v7, v8, .int (nI (be)), .int (nI (en)), .int (nI (a)), v12, .int 6, v14, v15, .ref q6, .ref q7, v18, v19, v20, v21, v22, v23, v24, v25, v26, v27, v28, v29, v30, v31, v32, v33, v34, v35, v36, v37, v38, v39, v40, v41, v42, v43, v44, v45, v46, v47, v48, v49, v50, v51]))] H := ⟨hP, hD⟩
  obtain ⟨hP, hD⟩ := hPD
  refine lv_aload_n hx hb dX10_goesIn_24 rfl (lv_at hl 0 rfl) ?_
  refine lv_dup hx hb dX10_goesIn_25 rfl ?_
  refine va_get (D := (dC, dI)) (ci := 10) (v := .int (nI (a))) (C := RX10) (T := TX10) (N := 52) hx hb hts (fun _ h => List.mem_cons_of_mem _ (List.mem_append_right _ h)) hown hK hP 0 rfl rfl 11 kc_l_11_52 (hts (.fieldLink RX10 141 "NotEndedModel" "at" "I") (List.mem_cons_of_mem _ (List.mem_append_left _ (List.mem_of_getElem? (i := 1) rfl)))) (fun _ h9 => h9) rfl dX10_goesIn_26 ?_
  refine lv_iconst (v := 1) hx hb dX10_goesIn_29 kc_i_1 ?_
  refine lv_iadd hx hb dX10_goesIn_30 ?_
  refine lv_topi (fun y_3 ey_3 => ?_)
  obtain rfl : y_3 = nI (a + 1) := ey_3.trans (nI_add (a) (1))
  refine va_put (D := (dC, dI)) (ci := 10) (v := .int (nI (a + 1))) (ty := tyX10 11) (C := RX10) (T := TX10) (N := 52) hx hb hts (fun _ h => List.mem_cons_of_mem _ (List.mem_append_right _ h)) tyX10 tyX10_ok nmX10 hown hK hP hD hS 0 rfl rfl 11 kc_l_11_52 (hts (.fieldLink RX10 141 "NotEndedModel" "at" "I") (List.mem_cons_of_mem _ (List.mem_append_left _ (List.mem_of_getElem? (i := 1) rfl)))) (fun _ h9 => h9) rfl (tyX10_ok 11 kc_l_11_52) rfl rfl (Nat.le_of_ble_eq_true rfl) dX10_goesIn_31 (fun H locs hP hD hS => ?_)
  have hPD : kPD dC dI A [(jM, .inr (10, [v0, v1, v2, v3, .ref lt, .ref tx, v6, v7, v8, .int (nI (be)), .int (nI (en)), .int (nI (a + 1)), v12, .int 6, v14, v15, .ref q6, .ref q7, v18, v19, v20, v21, v22, v23, v24, v25, v26, v27, v28, v29, v30, v31, v32, v33, v34, v35, v36, v37, v38, v39, v40, v41, v42, v43, v44, v45, v46, v47, v48, v49, v50, v51]))] H := ⟨hP, hD⟩
  obtain ⟨hP, hD⟩ := hPD
  refine lv_iconst (v := 1) hx hb dX10_goesIn_34 kc_i_1 ?_
  have hP9 := hP
  have hD9 := hD
  have hK9 := hK
  rw [hQ]
  exact W.zret (v := 1) hx hb hr rfl (fun t ht hW => ⟨⟨1, (), rfl, rfl,  by rw [ht]; exact hP9, va_K.moved hW.alike hK9, hD9⟩, hS.F ht⟩) hS.2.2 dX10_goesIn_35

theorem dX10_goesIn_9 : decode cX10_goesIn 9 = .ok (.aload_n 0, 1) := kDs0 kf_42 (by decide +kernel)
theorem dX10_goesIn_10 : decode cX10_goesIn 10 = .ok (.invokevirtual 156, 3) := kDs2 kf_182 (by decide +kernel)
theorem dX10_goesIn_13 : decode cX10_goesIn 13 = .ok (.ireturn, 1) := kDs0 kf_172 (by decide +kernel)
def w_s_goesIn10_6 : List Cond := .code yX10_goesIn cX10_goesIn 1 (some .boolean) :: ([.fieldLink RX10 153 "NotEndedModel" "deep" "I", .initialized RX10, .selects RX10 yX10_fails yX10_fails, .instanceMethod yX10_fails, .methodLink RX10 156 yX10_fails] ++ (wsX100 ++ (w_s_fails10)))
theorem gw_s_goesIn10_6 : (w_s_goesIn10_6).all goodWord = true := kGc rfl (kGa (by decide +kernel) (kGa gw_wsX100 gw_s_fails10))
set_option maxHeartbeats 4000000 in
set_option maxRecDepth 100000 in
theorem s_goesIn10_6 (l : Launch) (dC : Nat → ClassId) (dI : Nat → Nat → Nat) (jM : Nat) (v0 : Value) (v1 : Value) (v2 : Value) (v3 : Value) (v6 : Value) (v7 : Value) (v8 : Value) (v14 : Value) (v15 : Value) (v18 : Value) (v19 : Value) (v20 : Value) (v21 : Value) (v22 : Value) (v23 : Value) (v24 : Value) (v25 : Value) (v26 : Value) (v27 : Value) (v28 : Value) (v29 : Value) (v30 : Value) (v31 : Value) (v32 : Value) (v33 : Value) (v34 : Value) (v35 : Value) (v36 : Value) (v37 : Value) (v38 : Value) (v39 : Value) (v40 : Value) (v41 : Value) (v42 : Value) (v43 : Value) (v44 : Value) (v45 : Value) (v46 : Value) (v47 : Value) (v48 : Value) (v49 : Value) (v50 : Value) (v51 : Value) (lt : Nat) (q6 : Nat) (q7 : Nat) (tx : Nat) (be : Nat) (en : Nat) (a : Nat) (ha : a ≤ en) (hen : en ≤ 1680) (fv : Int32) (sz : Nat) : Met l yX10_goesIn w_s_goesIn10_6 ({ frames := 2, cells := 0, slots := 0, locals := 120 }) (kW dC dI [.ref jM] [(jM, .inr (10, [v0, v1, v2, v3, .ref lt, .ref tx, v6, v7, v8, .int (nI (be)), .int (nI (en)), .int (nI (a)), .int fv, .int 6, v14, v15, .ref q6, .ref q7, v18, v19, v20, v21, v22, v23, v24, v25, v26, v27, v28, v29, v30, v31, v32, v33, v34, v35, v36, v37, v38, v39, v40, v41, v42, v43, v44, v45, v46, v47, v48, v49, v50, v51]))] [] kT sz) (va_Qi (fun (r : Int32) (xf : Int32) => (r = 0 ∧ ¬ xf = -1)) (fun (xf : Int32) => fun t : State => kB dC dI [(jM, .inr (10, [v0, v1, v2, v3, .ref lt, .ref tx, v6, v7, v8, .int (nI (be)), .int (nI (en)), .int (nI (a)), .int xf, .int 6, v14, v15, .ref q6, .ref q7, v18, v19, v20, v21, v22, v23, v24, v25, v26, v27, v28, v29, v30, v31, v32, v33, v34, v35, v36, v37, v38, v39, v40, v41, v42, v43, v44, v45, v46, v47, v48, v49, v50, v51]))] [] (va_A [(jM, .inr (10, [v0, v1, v2, v3, .ref lt, .ref tx, v6, v7, v8, .int (nI (be)), .int (nI (en)), .int (nI (a)), .int fv, .int 6, v14, v15, .ref q6, .ref q7, v18, v19, v20, v21, v22, v23, v24, v25, v26, v27, v28, v29, v30, v31, v32, v33, v34, v35, v36, v37, v38, v39, v40, v41, v42, v43, v44, v45, v46, v47, v48, v49, v50, v51]))] sz) t) (va_A [(jM, .inr (10, [v0, v1, v2, v3, .ref lt, .ref tx, v6, v7, v8, .int (nI (be)), .int (nI (en)), .int (nI (a)), .int fv, .int 6, v14, v15, .ref q6, .ref q7, v18, v19, v20, v21, v22, v23, v24, v25, v26, v27, v28, v29, v30, v31, v32, v33, v34, v35, v36, v37, v38, v39, v40, v41, v42, v43, v44, v45, v46, v47, v48, v49, v50, v51]))] sz)) 0 0 (va_A [(jM, .inr (10, [v0, v1, v2, v3, .ref lt, .ref tx, v6, v7, v8, .int (nI (be)), .int (nI (en)), .int (nI (a)), .int fv, .int 6, v14, v15, .ref q6, .ref q7, v18, v19, v20, v21, v22, v23, v24, v25, v26, v27, v28, v29, v30, v31, v32, v33, v34, v35, v36, v37, v38, v39, v40, v41, v42, v43, v44, v45, v46, v47, v48, v49, v50, v51]))] sz) := by
  refine Met.ofW (cc := cX10_goesIn) (maxL := 1) (ret := (some .boolean)) (by decide) rfl ?_
  intro p e s m args below meth c s₁ B hml hv
  obtain ⟨rfl, hsz, hP, hK, hD0, hX⟩ := hv
  have hx := B.exec
  have hb := B.bytes
  have hr := B.returns
  have hts := atoms_spec (ws := w_s_goesIn10_6) B.pre
  have hown : s.vm.findClass RX10 = some m.cls := findClass_of_methodNamed B.named
  have hlocks := B.notSynchronized
  subst hsz
  have hD := hD0.self (sz := s.heap.size)
  generalize hAe : va_A [(jM, .inr (10, [v0, v1, v2, v3, .ref lt, .ref tx, v6, v7, v8, .int (nI (be)), .int (nI (en)), .int (nI (a)), .int fv, .int 6, v14, v15, .ref q6, .ref q7, v18, v19, v20, v21, v22, v23, v24, v25, v26, v27, v28, v29, v30, v31, v32, v33, v34, v35, v36, v37, v38, v39, v40, v41, v42, v43, v44, v45, v46, v47, v48, v49, v50, v51]))] s.heap.size = A at hD ⊢
  have hA : ∀ q : Nat, s.heap.size ≤ q → A q := fun q h => by rw [← hAe]; exact Or.inr h
  have hS : va_S A s.heap s.heap [] := va_S.rf
  have hP : va_P (dC, dI) vwCl [(jM, .inr (10, [v0, v1, v2, v3, .ref lt, .ref tx, v6, v7, v8, .int (nI (be)), .int (nI (en)), .int (nI (a)), .int fv, .int 6, v14, v15, .ref q6, .ref q7, v18, v19, v20, v21, v22, v23, v24, v25, v26, v27, v28, v29, v30, v31, v32, v33, v34, v35, v36, v37, v38, v39, v40, v41, v42, v43, v44, v45, v46, v47, v48, v49, v50, v51]))] s.heap := hP
  have hl := lv_entry ([.ref jM]) (n := 1) (Nat.le_of_ble_eq_true rfl)
  rw [lg_entry_eq]
  generalize (lg_sl ([.ref jM]) ++ List.replicate (1 - (lg_sl ([.ref jM])).length) Slot.unset).toArray = ls at hl ⊢
  have hl : lv_has ls 1 [(0, .ref jM)] := hl
  refine kQ (fun Q hQ => ?_)
  refine lv_aload_n hx hb dX10_goesIn_0 rfl (lv_at hl 0 rfl) ?_
  refine va_get (D := (dC, dI)) (ci := 10) (v := .int 6) (C := RX10) (T := TX10) (N := 52) hx hb hts (fun _ h => List.mem_cons_of_mem _ (List.mem_append_right _ (List.mem_append_left _ h))) hown hK hP 0 rfl rfl 13 kc_l_13_52 (hts (.fieldLink RX10 153 "NotEndedModel" "deep" "I") (List.mem_cons_of_mem _ (List.mem_append_left _ (List.mem_of_getElem? (i := 0) rfl)))) (fun _ h9 => h9) rfl dX10_goesIn_1 ?_
  refine lv_bipush (v := 6) hx hb dX10_goesIn_4 kc_b_6 ?_
  refine lv_icmp_ne (tgt := 14) hx hb dX10_goesIn_6 kc_t_6_8 (fun c_1 => absurd (by decide) c_1) (fun c_1 => ?_)
  refine lv_aload_n hx hb dX10_goesIn_9 rfl (lv_at hl 0 rfl) ?_
  have hCu := kCut (wc := [(jM, .inr (10, [v0, v1, v2, v3, .ref lt, .ref tx, v6, v7, v8, .int (nI (be)), .int (nI (en)), .int (nI (a)), .int fv, .int 6, v14, v15, .ref q6, .ref q7, v18, v19, v20, v21, v22, v23, v24, v25, v26, v27, v28, v29, v30, v31, v32, v33, v34, v35, v36, v37, v38, v39, v40, v41, v42, v43, v44, v45, v46, v47, v48, v49, v50, v51]))]) hP hD hS hA [0] rfl kc_nd_603 rfl
  have hPc := hCu.1
  have hDc := hCu.2.1
  have hFc := hCu.2.2
  have hKc := hK.sb (tys2 := []) [] rfl
  refine va_calli (va_runV (As := []) (rest := []) ⟨hx, hb, hml, hown, hts⟩ (s_fails10 l dC dI jM (v0 : Value) (v1 : Value) (v2 : Value) (v3 : Value) (v6 : Value) (v7 : Value) (v8 : Value) (.int 6 : Value) (v14 : Value) (v15 : Value) (v18 : Value) (v19 : Value) (v20 : Value) (v21 : Value) (v22 : Value) (v23 : Value) (v24 : Value) (v25 : Value) (v26 : Value) (v27 : Value) (v28 : Value) (v29 : Value) (v30 : Value) (v31 : Value) (v32 : Value) (v33 : Value) (v34 : Value) (v35 : Value) (v36 : Value) (v37 : Value) (v38 : Value) (v39 : Value) (v40 : Value) (v41 : Value) (v42 : Value) (v43 : Value) (v44 : Value) (v45 : Value) (v46 : Value) (v47 : Value) (v48 : Value) (v49 : Value) (v50 : Value) (v51 : Value) lt q6 q7 tx be en a ha hen fv s.heap.size) (cwV 0 hts (kG (List.forall_mem_cons.mpr ⟨(List.mem_cons_of_mem _ (List.mem_append_left _ (List.mem_of_getElem? (i := 4) rfl))), (List.forall_mem_cons.mpr ⟨(List.mem_cons_of_mem _ (List.mem_append_left _ (List.mem_of_getElem? (i := 3) rfl))), (List.forall_mem_cons.mpr ⟨(List.mem_cons_of_mem _ (List.mem_append_left _ (List.mem_of_getElem? (i := 2) rfl))), (List.forall_mem_cons.mpr ⟨(List.mem_cons_of_mem _ (List.mem_append_left _ (List.mem_of_getElem? (i := 1) rfl))), (fun _ h => absurd h List.not_mem_nil)⟩)⟩)⟩)⟩) (kGV _ _ _ _) (fun _ h => List.mem_cons_of_mem _ (List.mem_append_right _ (List.mem_append_right _ h))) gw_s_fails10) rfl rfl rfl ⟨rfl, hd_X10_fails⟩ ⟨(Nat.le_of_ble_eq_true rfl), (Nat.le_of_ble_eq_true rfl)⟩) (kW_V kT_blind kT_give (va_recv hKc hPc (ci := 10) (q0 := 0) rfl rfl) hPc hKc hDc) rfl rfl hl.1 rfl (lv_room (Nat.le_of_ble_eq_true rfl)) dX10_goesIn_10 ⟨(Nat.le_of_ble_eq_true rfl), (Nat.le_of_ble_eq_true rfl)⟩) hS (fun q _ h => hFc q h) hFc (fun r_2 xf_3 t H_4 locs ht hvm hw hB hz1 hk1 hS => ?_)
  try dsimp only at hw
  have hPD : kPD dC dI A [(jM, .inr (10, [(v0 : Value), (v1 : Value), (v2 : Value), (v3 : Value), .ref lt, .ref tx, (v6 : Value), (v7 : Value), (v8 : Value), .int (nI (be)), .int (nI (en)), .int (nI (a)), .int xf_3, .int 6, (v14 : Value), (v15 : Value), .ref q6, .ref q7, (v18 : Value), (v19 : Value), (v20 : Value), (v21 : Value), (v22 : Value), (v23 : Value), (v24 : Value), (v25 : Value), (v26 : Value), (v27 : Value), (v28 : Value), (v29 : Value), (v30 : Value), (v31 : Value), (v32 : Value), (v33 : Value), (v34 : Value), (v35 : Value), (v36 : Value), (v37 : Value), (v38 : Value), (v39 : Value), (v40 : Value), (v41 : Value), (v42 : Value), (v43 : Value), (v44 : Value), (v45 : Value), (v46 : Value), (v47 : Value), (v48 : Value), (v49 : Value), (v50 : Value), (v51 : Value)]))] H_4 := kJoinX hP hD [0] rfl hk1 hFc hB.1 ht hB.2.2 rfl [some 0] rfl rfl
  obtain ⟨hP, hD⟩ := hPD
  obtain ⟨rfl, hw_5⟩ := hw
  have hP9 := hP
  have hD9 := hD
  have hK9 := hK
  rw [hQ]
  exact W.zret (v := 0) hx hb hr rfl (fun t ht hW => ⟨⟨0, xf_3, rfl, ⟨rfl, hw_5⟩,  by rw [ht]; exact hP9, va_K.moved hW.alike hK9, hD9⟩, hS.F ht⟩) hS.2.2 dX10_goesIn_13

theorem dX10_takes_0 : decode cX10_takes 0 = .ok (.aload_n 0, 1) := kDs0 kf_42 (by decide +kernel)
theorem dX10_takes_1 : decode cX10_takes 1 = .ok (.getfield 150, 3) := kDs2 kf_180 (by decide +kernel)
theorem dX10_takes_4 : decode cX10_takes 4 = .ok (.iconst (-1), 1) := kDs0 kf_2 (by decide +kernel)
theorem dX10_takes_5 : decode cX10_takes 5 = .ok (.if_icmp .ne 11, 3) := kDs4 kf_160 (by decide +kernel)
theorem dX10_takes_16 : decode cX10_takes 16 = .ok (.aload_n 0, 1) := kDs0 kf_42 (by decide +kernel)
theorem dX10_takes_17 : decode cX10_takes 17 = .ok (.invokevirtual 156, 3) := kDs2 kf_182 (by decide +kernel)
theorem dX10_takes_20 : decode cX10_takes 20 = .ok (.ireturn, 1) := kDs0 kf_172 (by decide +kernel)
theorem dX10_takes_8 : decode cX10_takes 8 = .ok (.aload_n 0, 1) := kDs0 kf_42 (by decide +kernel)
theorem dX10_takes_9 : decode cX10_takes 9 = .ok (.invokevirtual 160, 3) := kDs2 kf_182 (by decide +kernel)
theorem dX10_takes_12 : decode cX10_takes 12 = .ok (.iload_n 1, 1) := kDs0 kf_27 (by decide +kernel)
theorem dX10_takes_13 : decode cX10_takes 13 = .ok (.if_icmp .eq 8, 3) := kDs4 kf_159 (by decide +kernel)
theorem dX10_takes_21 : decode cX10_takes 21 = .ok (.aload_n 0, 1) := kDs0 kf_42 (by decide +kernel)
theorem dX10_takes_22 : decode cX10_takes 22 = .ok (.dup, 1) := kDs0 kf_89 (by decide +kernel)
theorem dX10_takes_23 : decode cX10_takes 23 = .ok (.getfield 141, 3) := kDs2 kf_180 (by decide +kernel)
theorem dX10_takes_26 : decode cX10_takes 26 = .ok (.iconst 1, 1) := kDs0 kf_4 (by decide +kernel)
theorem dX10_takes_27 : decode cX10_takes 27 = .ok (.iadd, 1) := kDs0 kf_96 (by decide +kernel)
theorem dX10_takes_28 : decode cX10_takes 28 = .ok (.putfield 141, 3) := kDs2 kf_181 (by decide +kernel)
theorem dX10_takes_31 : decode cX10_takes 31 = .ok (.iconst 1, 1) := kDs0 kf_4 (by decide +kernel)
theorem dX10_takes_32 : decode cX10_takes 32 = .ok (.ireturn, 1) := kDs0 kf_172 (by decide +kernel)
def w_s_takes10 : List Cond := .code yX10_takes cX10_takes 2 (some .boolean) :: ([.fieldLink RX10 150 "NotEndedModel" "fault" "I", .initialized RX10, .selects RX10 yX10_fails yX10_fails, .instanceMethod yX10_fails, .methodLink RX10 156 yX10_fails, .selects RX10 yX10_look yX10_look, .instanceMethod yX10_look, .methodLink RX10 160 yX10_look, .fieldLink RX10 141 "NotEndedModel" "at" "I"] ++ (wsX100 ++ (w_s_fails10 ++ (w_s_look10))))
theorem gw_s_takes10 : (w_s_takes10).all goodWord = true := kGc rfl (kGa (by decide +kernel) (kGa gw_wsX100 (kGa gw_s_fails10 gw_s_look10)))
theorem hd_X10_takes : yX10_takes.cls ≠ "java/lang/invoke/MethodHandle" ∧ yX10_takes.cls ≠ "java/lang/invoke/VarHandle" ∧ (parseMethodDescriptor yX10_takes.desc).map (fun d => d.parameters.length) = some 1 := by decide +kernel
set_option maxHeartbeats 4000000 in
set_option maxRecDepth 100000 in
theorem s_takes10 (l : Launch) (dC : Nat → ClassId) (dI : Nat → Nat → Nat) (jM : Nat) (v0 : Value) (v1 : Value) (v2 : Value) (v3 : Value) (v6 : Value) (v7 : Value) (v8 : Value) (v13 : Value) (v14 : Value) (v15 : Value) (v18 : Value) (v19 : Value) (v20 : Value) (v21 : Value) (v22 : Value) (v23 : Value) (v24 : Value) (v25 : Value) (v26 : Value) (v27 : Value) (v28 : Value) (v29 : Value) (v30 : Value) (v31 : Value) (v32 : Value) (v33 : Value) (v34 : Value) (v35 : Value) (v36 : Value) (v37 : Value) (v38 : Value) (v39 : Value) (v40 : Value) (v41 : Value) (v42 : Value) (v43 : Value) (v44 : Value) (v45 : Value) (v46 : Value) (v47 : Value) (v48 : Value) (v49 : Value) (v50 : Value) (v51 : Value) (lt : Nat) (q6 : Nat) (q7 : Nat) (tx : Nat) (cT : ClassId) (nT : Nat) (gT : Nat → Int32) (be : Nat) (en : Nat) (a : Nat) (hbe : be + en ≤ nT) (hnT : nT ≤ 1680) (ha : a ≤ en) (fv : Int32) (p0 : Int32) (hp0 : ¬ p0 = -1) (sz : Nat) : Met l yX10_takes w_s_takes10 ({ frames := 2, cells := 0, slots := 0, locals := 120 }) (kW dC dI [.ref jM, .int p0] [(jM, .inr (10, [v0, v1, v2, v3, .ref lt, .ref tx, v6, v7, v8, .int (nI (be)), .int (nI (en)), .int (nI (a)), .int fv, v13, v14, v15, .ref q6, .ref q7, v18, v19, v20, v21, v22, v23, v24, v25, v26, v27, v28, v29, v30, v31, v32, v33, v34, v35, v36, v37, v38, v39, v40, v41, v42, v43, v44, v45, v46, v47, v48, v49, v50, v51])), (tx, .inl (cT, nT, .inl gT))] [(cT, .byte)] kT sz) (va_Qi (fun (r : Int32) (u : Nat × Int32) => match u with | (a1, xf) => ((r = 0 ∨ r = 1) ∧ (a ≤ a1 ∧ a1 ≤ en) ∧ (r = 0 → ¬ xf = -1) ∧ (¬ r = 0 → fv = -1 ∧ xf = -1))) (fun (u : Nat × Int32) => match u with | (a1, xf) => fun t : State => kB dC dI [(jM, .inr (10, [v0, v1, v2, v3, .ref lt, .ref tx, v6, v7, v8, .int (nI (be)), .int (nI (en)), .int (nI (a1)), .int xf, v13, v14, v15, .ref q6, .ref q7, v18, v19, v20, v21, v22, v23, v24, v25, v26, v27, v28, v29, v30, v31, v32, v33, v34, v35, v36, v37, v38, v39, v40, v41, v42, v43, v44, v45, v46, v47, v48, v49, v50, v51])), (tx, .inl (cT, nT, .inl gT))] [(cT, .byte)] (va_A [(jM, .inr (10, [v0, v1, v2, v3, .ref lt, .ref tx, v6, v7, v8, .int (nI (be)), .int (nI (en)), .int (nI (a)), .int fv, v13, v14, v15, .ref q6, .ref q7, v18, v19, v20, v21, v22, v23, v24, v25, v26, v27, v28, v29, v30, v31, v32, v33, v34, v35, v36, v37, v38, v39, v40, v41, v42, v43, v44, v45, v46, v47, v48, v49, v50, v51])), (tx, .inl (cT, nT, .inl gT))] sz) t) (va_A [(jM, .inr (10, [v0, v1, v2, v3, .ref lt, .ref tx, v6, v7, v8, .int (nI (be)), .int (nI (en)), .int (nI (a)), .int fv, v13, v14, v15, .ref q6, .ref q7, v18, v19, v20, v21, v22, v23, v24, v25, v26, v27, v28, v29, v30, v31, v32, v33, v34, v35, v36, v37, v38, v39, v40, v41, v42, v43, v44, v45, v46, v47, v48, v49, v50, v51])), (tx, .inl (cT, nT, .inl gT))] sz)) 0 0 (va_A [(jM, .inr (10, [v0, v1, v2, v3, .ref lt, .ref tx, v6, v7, v8, .int (nI (be)), .int (nI (en)), .int (nI (a)), .int fv, v13, v14, v15, .ref q6, .ref q7, v18, v19, v20, v21, v22, v23, v24, v25, v26, v27, v28, v29, v30, v31, v32, v33, v34, v35, v36, v37, v38, v39, v40, v41, v42, v43, v44, v45, v46, v47, v48, v49, v50, v51])), (tx, .inl (cT, nT, .inl gT))] sz) := by
  refine Met.ofW (cc := cX10_takes) (maxL := 2) (ret := (some .boolean)) (by decide) rfl ?_
  intro p e s m args below meth c s₁ B hml hv
  obtain ⟨rfl, hsz, hP, hK, hD0, hX⟩ := hv
  have hx := B.exec
  have hb := B.bytes
  have hr := B.returns
  have hts := atoms_spec (ws := w_s_takes10) B.pre
  have hown : s.vm.findClass RX10 = some m.cls := findClass_of_methodNamed B.named
  have hlocks := B.notSynchronized
  subst hsz
  have hD := hD0.self (sz := s.heap.size)
  generalize hAe : va_A [(jM, .inr (10, [v0, v1, v2, v3, .ref lt, .ref tx, v6, v7, v8, .int (nI (be)), .int (nI (en)), .int (nI (a)), .int fv, v13, v14, v15, .ref q6, .ref q7, v18, v19, v20, v21, v22, v23, v24, v25, v26, v27, v28, v29, v30, v31, v32, v33, v34, v35, v36, v37, v38, v39, v40, v41, v42, v43, v44, v45, v46, v47, v48, v49, v50, v51])), (tx, .inl (cT, nT, .inl gT))] s.heap.size = A at hD ⊢
  have hA : ∀ q : Nat, s.heap.size ≤ q → A q := fun q h => by rw [← hAe]; exact Or.inr h
  have hS : va_S A s.heap s.heap [] := va_S.rf
  have hP : va_P (dC, dI) vwCl [(jM, .inr (10, [v0, v1, v2, v3, .ref lt, .ref tx, v6, v7, v8, .int (nI (be)), .int (nI (en)), .int (nI (a)), .int fv, v13, v14, v15, .ref q6, .ref q7, v18, v19, v20, v21, v22, v23, v24, v25, v26, v27, v28, v29, v30, v31, v32, v33, v34, v35, v36, v37, v38, v39, v40, v41, v42, v43, v44, v45, v46, v47, v48, v49, v50, v51])), (tx, .inl (cT, nT, .inl gT))] s.heap := hP
  have hl := lv_entry ([.ref jM, .int p0]) (n := 2) (Nat.le_of_ble_eq_true rfl)
  rw [lg_entry_eq]
  generalize (lg_sl ([.ref jM, .int p0]) ++ List.replicate (2 - (lg_sl ([.ref jM, .int p0])).length) Slot.unset).toArray = ls at hl ⊢
  have hl : lv_has ls 2 [(0, .ref jM), (1, .int p0)] := hl
  refine kQ (fun Q hQ => ?_)
  refine lv_aload_n hx hb dX10_takes_0 rfl (lv_at hl 0 rfl) ?_
  refine va_get (D := (dC, dI)) (ci := 10) (v := .int fv) (C := RX10) (T := TX10) (N := 52) hx hb hts (fun _ h => List.mem_cons_of_mem _ (List.mem_append_right _ (List.mem_append_left _ h))) hown hK hP 0 rfl rfl 12 kc_l_12_52 (hts (.fieldLink RX10 150 "NotEndedModel" "fault" "I") (List.mem_cons_of_mem _ (List.mem_append_left _ (List.mem_of_getElem? (i := 0) rfl)))) (fun _ h9 => h9) rfl dX10_takes_1 ?_
  refine lv_iconst (v := (-1)) hx hb dX10_takes_4 kc_i_m1 ?_
  refine lv_icmp_ne (tgt := 16) hx hb dX10_takes_5 kc_t_5_11 (fun c_1 => ?_) (fun c_1 => ?_)
  · refine lv_aload_n hx hb dX10_takes_16 rfl (lv_at hl 0 rfl) ?_
    have bd_2 : en ≤ 1680 := by omega
    have hCu := kCut (wc := [(jM, .inr (10, [v0, v1, v2, v3, .ref lt, .ref tx, v6, v7, v8, .int (nI (be)), .int (nI (en)), .int (nI (a)), .int fv, v13, v14, v15, .ref q6, .ref q7, v18, v19, v20, v21, v22, v23, v24, v25, v26, v27, v28, v29, v30, v31, v32, v33, v34, v35, v36, v37, v38, v39, v40, v41, v42, v43, v44, v45, v46, v47, v48, v49, v50, v51]))]) hP hD hS hA [0] rfl kc_nd_603 rfl
    have hPc := hCu.1
    have hDc := hCu.2.1
    have hFc := hCu.2.2
    have hKc := hK.sb (tys2 := []) [] rfl
    refine va_calli (va_runV (As := []) (rest := []) ⟨hx, hb, hml, hown, hts⟩ (s_fails10 l dC dI jM (v0 : Value) (v1 : Value) (v2 : Value) (v3 : Value) (v6 : Value) (v7 : Value) (v8 : Value) (v13 : Value) (v14 : Value) (v15 : Value) (v18 : Value) (v19 : Value) (v20 : Value) (v21 : Value) (v22 : Value) (v23 : Value) (v24 : Value) (v25 : Value) (v26 : Value) (v27 : Value) (v28 : Value) (v29 : Value) (v30 : Value) (v31 : Value) (v32 : Value) (v33 : Value) (v34 : Value) (v35 : Value) (v36 : Value) (v37 : Value) (v38 : Value) (v39 : Value) (v40 : Value) (v41 : Value) (v42 : Value) (v43 : Value) (v44 : Value) (v45 : Value) (v46 : Value) (v47 : Value) (v48 : Value) (v49 : Value) (v50 : Value) (v51 : Value) lt q6 q7 tx be en a ha bd_2 fv s.heap.size) (cwV 0 hts (kG (List.forall_mem_cons.mpr ⟨(List.mem_cons_of_mem _ (List.mem_append_left _ (List.mem_of_getElem? (i := 4) rfl))), (List.forall_mem_cons.mpr ⟨(List.mem_cons_of_mem _ (List.mem_append_left _ (List.mem_of_getElem? (i := 3) rfl))), (List.forall_mem_cons.mpr ⟨(List.mem_cons_of_mem _ (List.mem_append_left _ (List.mem_of_getElem? (i := 2) rfl))), (List.forall_mem_cons.mpr ⟨(List.mem_cons_of_mem _ (List.mem_append_left _ (List.mem_of_getElem? (i := 1) rfl))), (fun _ h => absurd h List.not_mem_nil)⟩)⟩)⟩)⟩) (kGV _ _ _ _) (fun _ h => List.mem_cons_of_mem _ (List.mem_append_right _ (List.mem_append_right _ (List.mem_append_left _ h)))) gw_s_fails10) rfl rfl rfl ⟨rfl, hd_X10_fails⟩ ⟨(Nat.le_of_ble_eq_true rfl), (Nat.le_of_ble_eq_true rfl)⟩) (kW_V kT_blind kT_give (va_recv hKc hPc (ci := 10) (q0 := 0) rfl rfl) hPc hKc hDc) rfl rfl hl.1 rfl (lv_room (Nat.le_of_ble_eq_true rfl)) dX10_takes_17 ⟨(Nat.le_of_ble_eq_true rfl), (Nat.le_of_ble_eq_true rfl)⟩) hS (fun q _ h => hFc q h) hFc (fun r_3 xf_4 t H_5 locs ht hvm hw hB hz1 hk1 hS => ?_)
    try dsimp only at hw
    have hPD : kPD dC dI A [(jM, .inr (10, [(v0 : Value), (v1 : Value), (v2 : Value), (v3 : Value), .ref lt, .ref tx, (v6 : Value), (v7 : Value), (v8 : Value), .int (nI (be)), .int (nI (en)), .int (nI (a)), .int xf_4, (v13 : Value), (v14 : Value), (v15 : Value), .ref q6, .ref q7, (v18 : Value), (v19 : Value), (v20 : Value), (v21 : Value), (v22 : Value), (v23 : Value), (v24 : Value), (v25 : Value), (v26 : Value), (v27 : Value), (v28 : Value), (v29 : Value), (v30 : Value), (v31 : Value), (v32 : Value), (v33 : Value), (v34 : Value), (v35 : Value), (v36 : Value), (v37 : Value), (v38 : Value), (v39 : Value), (v40 : Value), (v41 : Value), (v42 : Value), (v43 : Value), (v44 : Value), (v45 : Value), (v46 : Value), (v47 : Value), (v48 : Value), (v49 : Value), (v50 : Value), (v51 : Value)])), (tx, .inl (cT, nT, .inl gT))] H_5 := kJoinX hP hD [0] rfl hk1 hFc hB.1 ht hB.2.2 rfl [some 0, none] rfl rfl
    obtain ⟨hP, hD⟩ := hPD
    obtain ⟨rfl, hw_6⟩ := hw
    have hP9 := hP
    have hD9 := hD
    have hK9 := hK
    rw [hQ]
    exact W.zret (v := 0) hx hb hr rfl (fun t ht hW => ⟨⟨0, (a, xf_4), rfl, ⟨Or.inl rfl, by omega, fun _ => hw_6, fun z9 => absurd rfl z9⟩,  by rw [ht]; exact hP9, va_K.moved hW.alike hK9, hD9⟩, hS.F ht⟩) hS.2.2 dX10_takes_20
  · refine lv_aload_n hx hb dX10_takes_8 rfl (lv_at hl 0 rfl) ?_
    have bd_7 : be + en ≤ nT := by omega
    have hCu := kCut (wc := [(jM, .inr (10, [v0, v1, v2, v3, .ref lt, .ref tx, v6, v7, v8, .int (nI (be)), .int (nI (en)), .int (nI (a)), .int fv, v13, v14, v15, .ref q6, .ref q7, v18, v19, v20, v21, v22, v23, v24, v25, v26, v27, v28, v29, v30, v31, v32, v33, v34, v35, v36, v37, v38, v39, v40, v41, v42, v43, v44, v45, v46, v47, v48, v49, v50, v51])), (tx, .inl (cT, nT, .inl gT))]) hP hD hS hA [0, 1] rfl kc_nd_434 rfl
    have hPc := hCu.1
    have hDc := hCu.2.1
    have hFc := hCu.2.2
    have hKc := hK.sb (tys2 := [(cT, .byte)]) [0] rfl
    refine va_calli (va_runV (As := []) (rest := []) ⟨hx, hb, hml, hown, hts⟩ (s_look10 l dC dI jM (v0 : Value) (v1 : Value) (v2 : Value) (v3 : Value) (v6 : Value) (v7 : Value) (v8 : Value) (.int fv : Value) (v13 : Value) (v14 : Value) (v15 : Value) (v18 : Value) (v19 : Value) (v20 : Value) (v21 : Value) (v22 : Value) (v23 : Value) (v24 : Value) (v25 : Value) (v26 : Value) (v27 : Value) (v28 : Value) (v29 : Value) (v30 : Value) (v31 : Value) (v32 : Value) (v33 : Value) (v34 : Value) (v35 : Value) (v36 : Value) (v37 : Value) (v38 : Value) (v39 : Value) (v40 : Value) (v41 : Value) (v42 : Value) (v43 : Value) (v44 : Value) (v45 : Value) (v46 : Value) (v47 : Value) (v48 : Value) (v49 : Value) (v50 : Value) (v51 : Value) lt q6 q7 tx cT nT gT be en a bd_7 hnT ha s.heap.size) (cwV 0 hts (kG (List.forall_mem_cons.mpr ⟨(List.mem_cons_of_mem _ (List.mem_append_left _ (List.mem_of_getElem? (i := 7) rfl))), (List.forall_mem_cons.mpr ⟨(List.mem_cons_of_mem _ (List.mem_append_left _ (List.mem_of_getElem? (i := 6) rfl))), (List.forall_mem_cons.mpr ⟨(List.mem_cons_of_mem _ (List.mem_append_left _ (List.mem_of_getElem? (i := 5) rfl))), (List.forall_mem_cons.mpr ⟨(List.mem_cons_of_mem _ (List.mem_append_left _ (List.mem_of_getElem? (i := 1) rfl))), (fun _ h => absurd h List.not_mem_nil)⟩)⟩)⟩)⟩) (kGV _ _ _ _) (fun _ h => List.mem_cons_of_mem _ (List.mem_append_right _ (List.mem_append_right _ (List.mem_append_right _ h)))) gw_s_look10) rfl rfl rfl ⟨rfl, hd_X10_look⟩ ⟨(Nat.le_of_ble_eq_true rfl), (Nat.le_of_ble_eq_true rfl)⟩) (kW_V kT_blind kT_give (va_recv hKc hPc (ci := 10) (q0 := 0) rfl rfl) hPc hKc hDc) rfl rfl hl.1 rfl (lv_room (Nat.le_of_ble_eq_true rfl)) dX10_takes_9 ⟨(Nat.le_of_ble_eq_true rfl), (Nat.le_of_ble_eq_true rfl)⟩) hS (fun q _ h => hFc q h) hFc (fun r_8 a1_9 t H_10 locs ht hvm hw hB hz1 hk1 hS => ?_)
    try dsimp only at hw
    have hPD : kPD dC dI A [(jM, .inr (10, [(v0 : Value), (v1 : Value), (v2 : Value), (v3 : Value), .ref lt, .ref tx, (v6 : Value), (v7 : Value), (v8 : Value), .int (nI (be)), .int (nI (en)), .int (nI (a1_9)), .int fv, (v13 : Value), (v14 : Value), (v15 : Value), .ref q6, .ref q7, (v18 : Value), (v19 : Value), (v20 : Value), (v21 : Value), (v22 : Value), (v23 : Value), (v24 : Value), (v25 : Value), (v26 : Value), (v27 : Value), (v28 : Value), (v29 : Value), (v30 : Value), (v31 : Value), (v32 : Value), (v33 : Value), (v34 : Value), (v35 : Value), (v36 : Value), (v37 : Value), (v38 : Value), (v39 : Value), (v40 : Value), (v41 : Value), (v42 : Value), (v43 : Value), (v44 : Value), (v45 : Value), (v46 : Value), (v47 : Value), (v48 : Value), (v49 : Value), (v50 : Value), (v51 : Value)])), (tx, .inl (cT, nT, .inl gT))] H_10 := kJoinX hP hD [0, 1] rfl hk1 hFc hB.1 ht hB.2.2 rfl [some 0, some 1] rfl rfl
    obtain ⟨hP, hD⟩ := hPD
    have hw_11 := hw
    have hw_11_3 := hw_11.2.1
    refine lv_iload_n hx hb dX10_takes_12 rfl (lv_at hl 1 rfl) ?_
    refine lv_icmp_eq (tgt := 21) hx hb dX10_takes_13 kc_t_13_8 (fun c_12 => ?_) (fun c_12 => ?_)
    · have hlt9 := (hw_11.1.resolve_left (fun z9 => hp0 (c_12.symm.trans z9))).1
      refine lv_aload_n hx hb dX10_takes_21 rfl (lv_at hl 0 rfl) ?_
      refine lv_dup hx hb dX10_takes_22 rfl ?_
      refine va_get (D := (dC, dI)) (ci := 10) (v := .int (nI (a1_9))) (C := RX10) (T := TX10) (N := 52) hx hb hts (fun _ h => List.mem_cons_of_mem _ (List.mem_append_right _ (List.mem_append_left _ h))) hown hK hP 0 rfl rfl 11 kc_l_11_52 (hts (.fieldLink RX10 141 "NotEndedModel" "at" "I") (List.mem_cons_of_mem _ (List.mem_append_left _ (List.mem_of_getElem? (i := 8) rfl)))) (fun _ h9 => h9) rfl dX10_takes_23 ?_
      refine lv_iconst (v := 1) hx hb dX10_takes_26 kc_i_1 ?_
      refine lv_iadd hx hb dX10_takes_27 ?_
      refine lv_topi (fun y_13 ey_13 => ?_)
      obtain rfl : y_13 = nI (a1_9 + 1) := ey_13.trans (nI_add (a1_9) (1))
      refine va_put (D := (dC, dI)) (ci := 10) (v := .int (nI (a1_9 + 1))) (ty := tyX10 11) (C := RX10) (T := TX10) (N := 52) hx hb hts (fun _ h => List.mem_cons_of_mem _ (List.mem_append_right _ (List.mem_append_left _ h))) tyX10 tyX10_ok nmX10 hown hK hP hD hS 0 rfl rfl 11 kc_l_11_52 (hts (.fieldLink RX10 141 "NotEndedModel" "at" "I") (List.mem_cons_of_mem _ (List.mem_append_left _ (List.mem_of_getElem? (i := 8) rfl)))) (fun _ h9 => h9) rfl (tyX10_ok 11 kc_l_11_52) rfl rfl (Nat.le_of_ble_eq_true rfl) dX10_takes_28 (fun H locs hP hD hS => ?_)
      have hPD : kPD dC dI A [(jM, .inr (10, [(v0 : Value), (v1 : Value), (v2 : Value), (v3 : Value), .ref lt, .ref tx, (v6 : Value), (v7 : Value), (v8 : Value), .int (nI (be)), .int (nI (en)), .int (nI (a1_9 + 1)), .int fv, (v13 : Value), (v14 : Value), (v15 : Value), .ref q6, .ref q7, (v18 : Value), (v19 : Value), (v20 : Value), (v21 : Value), (v22 : Value), (v23 : Value), (v24 : Value), (v25 : Value), (v26 : Value), (v27 : Value), (v28 : Value), (v29 : Value), (v30 : Value), (v31 : Value), (v32 : Value), (v33 : Value), (v34 : Value), (v35 : Value), (v36 : Value), (v37 : Value), (v38 : Value), (v39 : Value), (v40 : Value), (v41 : Value), (v42 : Value), (v43 : Value), (v44 : Value), (v45 : Value), (v46 : Value), (v47 : Value), (v48 : Value), (v49 : Value), (v50 : Value), (v51 : Value)])), (tx, .inl (cT, nT, .inl gT))] H := ⟨hP, hD⟩
      obtain ⟨hP, hD⟩ := hPD
      refine lv_iconst (v := 1) hx hb dX10_takes_31 kc_i_1 ?_
      have hP9 := hP
      have hD9 := hD
      have hK9 := hK
      rw [hQ]
      exact W.zret (v := 1) hx hb hr rfl (fun t ht hW => ⟨⟨1, ((a1_9 + 1), fv), rfl, ⟨Or.inr rfl, by omega, fun z9 => absurd z9 (by decide), fun _ => ⟨c_1, c_1⟩⟩,  by rw [ht]; exact hP9, va_K.moved hW.alike hK9, hD9⟩, hS.F ht⟩) hS.2.2 dX10_takes_32
    · refine lv_aload_n hx hb dX10_takes_16 rfl (lv_at hl 0 rfl) ?_
      have bd_14 : a1_9 ≤ en := by omega
      have bd_15 : en ≤ 1680 := by omega
      have hCu := kCut (wc := [(jM, .inr (10, [(v0 : Value), (v1 : Value), (v2 : Value), (v3 : Value), .ref lt, .ref tx, (v6 : Value), (v7 : Value), (v8 : Value), .int (nI (be)), .int (nI (en)), .int (nI (a1_9)), .int fv, (v13 : Value), (v14 : Value), (v15 : Value), .ref q6, .ref q7, (v18 : Value), (v19 : Value), (v20 : Value), (v21 : Value), (v22 : Value), (v23 : Value), (v24 : Value), (v25 : Value), (v26 : Value), (v27 : Value), (v28 : Value), (v29 : Value), (v30 : Value), (v31 : Value), (v32 : Value), (v33 : Value), (v34 : Value), (v35 : Value), (v36 : Value), (v37 : Value), (v38 : Value), (v39 : Value), (v40 : Value), (v41 : Value), (v42 : Value), (v43 : Value), (v44 : Value), (v45 : Value), (v46 : Value), (v47 : Value), (v48 : Value), (v49 : Value), (v50 : Value), (v51 : Value)]))]) hP hD hS hA [0] rfl kc_nd_603 rfl
      have hPc := hCu.1
      have hDc := hCu.2.1
      have hFc := hCu.2.2
      have hKc := hK.sb (tys2 := []) [] rfl
      refine va_calli (va_runV (As := []) (rest := []) ⟨hx, hb, hml, hown, hts⟩ (s_fails10 l dC dI jM ((v0 : Value) : Value) ((v1 : Value) : Value) ((v2 : Value) : Value) ((v3 : Value) : Value) ((v6 : Value) : Value) ((v7 : Value) : Value) ((v8 : Value) : Value) ((v13 : Value) : Value) ((v14 : Value) : Value) ((v15 : Value) : Value) ((v18 : Value) : Value) ((v19 : Value) : Value) ((v20 : Value) : Value) ((v21 : Value) : Value) ((v22 : Value) : Value) ((v23 : Value) : Value) ((v24 : Value) : Value) ((v25 : Value) : Value) ((v26 : Value) : Value) ((v27 : Value) : Value) ((v28 : Value) : Value) ((v29 : Value) : Value) ((v30 : Value) : Value) ((v31 : Value) : Value) ((v32 : Value) : Value) ((v33 : Value) : Value) ((v34 : Value) : Value) ((v35 : Value) : Value) ((v36 : Value) : Value) ((v37 : Value) : Value) ((v38 : Value) : Value) ((v39 : Value) : Value) ((v40 : Value) : Value) ((v41 : Value) : Value) ((v42 : Value) : Value) ((v43 : Value) : Value) ((v44 : Value) : Value) ((v45 : Value) : Value) ((v46 : Value) : Value) ((v47 : Value) : Value) ((v48 : Value) : Value) ((v49 : Value) : Value) ((v50 : Value) : Value) ((v51 : Value) : Value) lt q6 q7 tx be en a1_9 bd_14 bd_15 fv H_10.size) (cwV 0 hts (kG (List.forall_mem_cons.mpr ⟨(List.mem_cons_of_mem _ (List.mem_append_left _ (List.mem_of_getElem? (i := 4) rfl))), (List.forall_mem_cons.mpr ⟨(List.mem_cons_of_mem _ (List.mem_append_left _ (List.mem_of_getElem? (i := 3) rfl))), (List.forall_mem_cons.mpr ⟨(List.mem_cons_of_mem _ (List.mem_append_left _ (List.mem_of_getElem? (i := 2) rfl))), (List.forall_mem_cons.mpr ⟨(List.mem_cons_of_mem _ (List.mem_append_left _ (List.mem_of_getElem? (i := 1) rfl))), (fun _ h => absurd h List.not_mem_nil)⟩)⟩)⟩)⟩) (kGV _ _ _ _) (fun _ h => List.mem_cons_of_mem _ (List.mem_append_right _ (List.mem_append_right _ (List.mem_append_left _ h)))) gw_s_fails10) rfl rfl rfl ⟨rfl, hd_X10_fails⟩ ⟨(Nat.le_of_ble_eq_true rfl), (Nat.le_of_ble_eq_true rfl)⟩) (kW_V kT_blind kT_give (va_recv hKc hPc (ci := 10) (q0 := 0) rfl rfl) hPc hKc hDc) rfl rfl hl.1 rfl (lv_room (Nat.le_of_ble_eq_true rfl)) dX10_takes_17 ⟨(Nat.le_of_ble_eq_true rfl), (Nat.le_of_ble_eq_true rfl)⟩) hS (fun q _ h => hFc q h) hFc (fun r_16 xf_17 t H_18 locs ht hvm hw hB hz1 hk1 hS => ?_)
      try dsimp only at hw
      have hPD : kPD dC dI A [(jM, .inr (10, [((v0 : Value) : Value), ((v1 : Value) : Value), ((v2 : Value) : Value), ((v3 : Value) : Value), .ref lt, .ref tx, ((v6 : Value) : Value), ((v7 : Value) : Value), ((v8 : Value) : Value), .int (nI (be)), .int (nI (en)), .int (nI (a1_9)), .int xf_17, ((v13 : Value) : Value), ((v14 : Value) : Value), ((v15 : Value) : Value), .ref q6, .ref q7, ((v18 : Value) : Value), ((v19 : Value) : Value), ((v20 : Value) : Value), ((v21 : Value) : Value), ((v22 : Value) : Value), ((v23 : Value) : Value), ((v24 : Value) : Value), ((v25 : Value) : Value), ((v26 : Value) : Value), ((v27 : Value) : Value), ((v28 : Value) : Value), ((v29 : Value) : Value), ((v30 : Value) : Value), ((v31 : Value) : Value), ((v32 : Value) : Value), ((v33 : Value) : Value), ((v34 : Value) : Value), ((v35 : Value) : Value), ((v36 : Value) : Value), ((v37 : Value) : Value), ((v38 : Value) : Value), ((v39 : Value) : Value), ((v40 : Value) : Value), ((v41 : Value) : Value), ((v42 : Value) : Value), ((v43 : Value) : Value), ((v44 : Value) : Value), ((v45 : Value) : Value), ((v46 : Value) : Value), ((v47 : Value) : Value), ((v48 : Value) : Value), ((v49 : Value) : Value), ((v50 : Value) : Value), ((v51 : Value) : Value)])), (tx, .inl (cT, nT, .inl gT))] H_18 := kJoinX hP hD [0] rfl hk1 hFc hB.1 ht hB.2.2 rfl [some 0, none] rfl rfl
      obtain ⟨hP, hD⟩ := hPD
      obtain ⟨rfl, hw_19⟩ := hw
      have hP9 := hP
      have hD9 := hD
      have hK9 := hK
      rw [hQ]
      exact W.zret (v := 0) hx hb hr rfl (fun t ht hW => ⟨⟨0, (a1_9, xf_17), rfl, ⟨Or.inl rfl, by omega, fun _ => hw_19, fun z9 => absurd rfl z9⟩,  by rw [ht]; exact hP9, va_K.moved hW.alike hK9, hD9⟩, hS.F ht⟩) hS.2.2 dX10_takes_20

theorem dX10_isDigit_0 : decode cX10_isDigit 0 = .ok (.aload_n 0, 1) := kDs0 kf_42 (by decide +kernel)
theorem dX10_isDigit_1 : decode cX10_isDigit 1 = .ok (.getfield 141, 3) := kDs2 kf_180 (by decide +kernel)
theorem dX10_isDigit_4 : decode cX10_isDigit 4 = .ok (.aload_n 0, 1) := kDs0 kf_42 (by decide +kernel)
theorem dX10_isDigit_5 : decode cX10_isDigit 5 = .ok (.getfield 144, 3) := kDs2 kf_180 (by decide +kernel)
theorem dX10_isDigit_8 : decode cX10_isDigit 8 = .ok (.if_icmp .ge 45, 3) := kDs4 kf_162 (by decide +kernel)
theorem dX10_isDigit_53 : decode cX10_isDigit 53 = .ok (.iconst 0, 1) := kDs0 kf_3 (by decide +kernel)
theorem dX10_isDigit_54 : decode cX10_isDigit 54 = .ok (.ireturn, 1) := kDs0 kf_172 (by decide +kernel)
theorem dX10_isDigit_11 : decode cX10_isDigit 11 = .ok (.aload_n 0, 1) := kDs0 kf_42 (by decide +kernel)
theorem dX10_isDigit_12 : decode cX10_isDigit 12 = .ok (.getfield 23, 3) := kDs2 kf_180 (by decide +kernel)
theorem dX10_isDigit_15 : decode cX10_isDigit 15 = .ok (.aload_n 0, 1) := kDs0 kf_42 (by decide +kernel)
theorem dX10_isDigit_16 : decode cX10_isDigit 16 = .ok (.getfield 147, 3) := kDs2 kf_180 (by decide +kernel)
theorem dX10_isDigit_19 : decode cX10_isDigit 19 = .ok (.aload_n 0, 1) := kDs0 kf_42 (by decide +kernel)
theorem dX10_isDigit_20 : decode cX10_isDigit 20 = .ok (.getfield 141, 3) := kDs2 kf_180 (by decide +kernel)
theorem dX10_isDigit_23 : decode cX10_isDigit 23 = .ok (.iadd, 1) := kDs0 kf_96 (by decide +kernel)
theorem dX10_isDigit_24 : decode cX10_isDigit 24 = .ok (.baload, 1) := kDs0 kf_51 (by decide +kernel)
theorem dX10_isDigit_25 : decode cX10_isDigit 25 = .ok (.bipush 48, 2) := kDs3 kf_16 (by decide +kernel)
theorem dX10_isDigit_27 : decode cX10_isDigit 27 = .ok (.if_icmp .lt 26, 3) := kDs4 kf_161 (by decide +kernel)
theorem dX10_isDigit_30 : decode cX10_isDigit 30 = .ok (.aload_n 0, 1) := kDs0 kf_42 (by decide +kernel)
theorem dX10_isDigit_31 : decode cX10_isDigit 31 = .ok (.getfield 23, 3) := kDs2 kf_180 (by decide +kernel)
theorem dX10_isDigit_34 : decode cX10_isDigit 34 = .ok (.aload_n 0, 1) := kDs0 kf_42 (by decide +kernel)
theorem dX10_isDigit_35 : decode cX10_isDigit 35 = .ok (.getfield 147, 3) := kDs2 kf_180 (by decide +kernel)
theorem dX10_isDigit_38 : decode cX10_isDigit 38 = .ok (.aload_n 0, 1) := kDs0 kf_42 (by decide +kernel)
theorem dX10_isDigit_39 : decode cX10_isDigit 39 = .ok (.getfield 141, 3) := kDs2 kf_180 (by decide +kernel)
theorem dX10_isDigit_42 : decode cX10_isDigit 42 = .ok (.iadd, 1) := kDs0 kf_96 (by decide +kernel)
theorem dX10_isDigit_43 : decode cX10_isDigit 43 = .ok (.baload, 1) := kDs0 kf_51 (by decide +kernel)
theorem dX10_isDigit_44 : decode cX10_isDigit 44 = .ok (.bipush 57, 2) := kDs3 kf_16 (by decide +kernel)
theorem dX10_isDigit_46 : decode cX10_isDigit 46 = .ok (.if_icmp .gt 7, 3) := kDs4 kf_163 (by decide +kernel)
theorem dX10_isDigit_49 : decode cX10_isDigit 49 = .ok (.iconst 1, 1) := kDs0 kf_4 (by decide +kernel)
theorem dX10_isDigit_50 : decode cX10_isDigit 50 = .ok (.goto 4, 3) := kDs4 kf_167 (by decide +kernel)
def w_s_isDigit10 : List Cond := .code yX10_isDigit cX10_isDigit 1 (some .boolean) :: ([.fieldLink RX10 141 "NotEndedModel" "at" "I", .fieldLink RX10 144 "NotEndedModel" "ends" "I", .fieldLink RX10 23 "NotEndedModel" "text" "[B", .fieldLink RX10 147 "NotEndedModel" "begins" "I"] ++ (wsX100))
theorem gw_s_isDigit10 : (w_s_isDigit10).all goodWord = true := kGc rfl (kGa (by decide +kernel) gw_wsX100)
theorem hd_X10_isDigit : yX10_isDigit.cls ≠ "java/lang/invoke/MethodHandle" ∧ yX10_isDigit.cls ≠ "java/lang/invoke/VarHandle" ∧ (parseMethodDescriptor yX10_isDigit.desc).map (fun d => d.parameters.length) = some 0 := by decide +kernel
set_option maxHeartbeats 4000000 in
set_option maxRecDepth 100000 in
theorem s_isDigit10 (l : Launch) (dC : Nat → ClassId) (dI : Nat → Nat → Nat) (jM : Nat) (v0 : Value) (v1 : Value) (v2 : Value) (v3 : Value) (v6 : Value) (v7 : Value) (v8 : Value) (v12 : Value) (v13 : Value) (v14 : Value) (v15 : Value) (v18 : Value) (v19 : Value) (v20 : Value) (v21 : Value) (v22 : Value) (v23 : Value) (v24 : Value) (v25 : Value) (v26 : Value) (v27 : Value) (v28 : Value) (v29 : Value) (v30 : Value) (v31 : Value) (v32 : Value) (v33 : Value) (v34 : Value) (v35 : Value) (v36 : Value) (v37 : Value) (v38 : Value) (v39 : Value) (v40 : Value) (v41 : Value) (v42 : Value) (v43 : Value) (v44 : Value) (v45 : Value) (v46 : Value) (v47 : Value) (v48 : Value) (v49 : Value) (v50 : Value) (v51 : Value) (lt : Nat) (q6 : Nat) (q7 : Nat) (tx : Nat) (cT : ClassId) (nT : Nat) (gT : Nat → Int32) (be : Nat) (en : Nat) (a : Nat) (hbe : be + en ≤ nT) (hnT : nT ≤ 1680) (ha : a ≤ en) : Met l yX10_isDigit w_s_isDigit10 ({ frames := 1, cells := 0, slots := 0, locals := 60 }) (kR dC dI [.ref jM] [(jM, .inr (10, [v0, v1, v2, v3, .ref lt, .ref tx, v6, v7, v8, .int (nI (be)), .int (nI (en)), .int (nI (a)), v12, v13, v14, v15, .ref q6, .ref q7, v18, v19, v20, v21, v22, v23, v24, v25, v26, v27, v28, v29, v30, v31, v32, v33, v34, v35, v36, v37, v38, v39, v40, v41, v42, v43, v44, v45, v46, v47, v48, v49, v50, v51])), (tx, .inl (cT, nT, .inl gT))] [(cT, .byte)] kT) (vp_Si (fun r : Int32 => ((r = 0 ∨ r = 1) ∧ (¬ r = 0 → a < en)))) 0 0 (fun _ => False) := by
  refine Met.ofW (cc := cX10_isDigit) (maxL := 1) (ret := (some .boolean)) (by decide) rfl ?_
  intro p e s m args below meth c s₁ B hml hv
  obtain ⟨rfl, hP, hK, hX⟩ := hv
  have hx := B.exec
  have hb := B.bytes
  have hr := B.returns
  have hts := atoms_spec (ws := w_s_isDigit10) B.pre
  have hown : s.vm.findClass RX10 = some m.cls := findClass_of_methodNamed B.named
  have hlocks := B.notSynchronized
  have hP : va_P (dC, dI) vwCl [(jM, .inr (10, [v0, v1, v2, v3, .ref lt, .ref tx, v6, v7, v8, .int (nI (be)), .int (nI (en)), .int (nI (a)), v12, v13, v14, v15, .ref q6, .ref q7, v18, v19, v20, v21, v22, v23, v24, v25, v26, v27, v28, v29, v30, v31, v32, v33, v34, v35, v36, v37, v38, v39, v40, v41, v42, v43, v44, v45, v46, v47, v48, v49, v50, v51])), (tx, .inl (cT, nT, .inl gT))] s.heap := hP
  have hl := lv_entry ([.ref jM]) (n := 1) (Nat.le_of_ble_eq_true rfl)
  rw [lg_entry_eq]
  generalize (lg_sl ([.ref jM]) ++ List.replicate (1 - (lg_sl ([.ref jM])).length) Slot.unset).toArray = ls at hl ⊢
  have hl : lv_has ls 1 [(0, .ref jM)] := hl
  refine kQ (fun Q hQ => ?_)
  refine lv_aload_n hx hb dX10_isDigit_0 rfl (lv_at hl 0 rfl) ?_
  refine va_get (D := (dC, dI)) (ci := 10) (v := .int (nI (a))) (C := RX10) (T := TX10) (N := 52) hx hb hts (fun _ h => List.mem_cons_of_mem _ (List.mem_append_right _ h)) hown hK hP 0 rfl rfl 11 kc_l_11_52 (hts (.fieldLink RX10 141 "NotEndedModel" "at" "I") (List.mem_cons_of_mem _ (List.mem_append_left _ (List.mem_of_getElem? (i := 0) rfl)))) (fun _ h9 => h9) rfl dX10_isDigit_1 ?_
  refine lv_aload_n hx hb dX10_isDigit_4 rfl (lv_at hl 0 rfl) ?_
  refine va_get (D := (dC, dI)) (ci := 10) (v := .int (nI (en))) (C := RX10) (T := TX10) (N := 52) hx hb hts (fun _ h => List.mem_cons_of_mem _ (List.mem_append_right _ h)) hown hK hP 0 rfl rfl 10 kc_l_10_52 (hts (.fieldLink RX10 144 "NotEndedModel" "ends" "I") (List.mem_cons_of_mem _ (List.mem_append_left _ (List.mem_of_getElem? (i := 1) rfl)))) (fun _ h9 => h9) rfl dX10_isDigit_5 ?_
  refine lv_icmp_ge (tgt := 53) hx hb dX10_isDigit_8 kc_t_8_45 (fun c_1 => ?_) (fun c_1 => ?_)
  · have bd_3 : en < 2147483648 := by omega
    have bd_4 : a < 2147483648 := by omega
    have hn_2 := kle (a := en) (b := a) bd_3 bd_4 c_1
    refine lv_iconst (v := 0) hx hb dX10_isDigit_53 kc_i_0 ?_
    rw [hQ]
    exact W.zret (v := 0) hx hb hr rfl (fun t ht hW => ⟨0, rfl, ⟨Or.inl rfl, fun z9 => absurd rfl z9⟩, ht⟩) (fun _ h => nomatch h) dX10_isDigit_54
  · have bd_6 : en < 2147483648 := by omega
    have bd_7 : a < 2147483648 := by omega
    have hn_5 := knle (a := en) (b := a) bd_6 bd_7 c_1
    refine lv_aload_n hx hb dX10_isDigit_11 rfl (lv_at hl 0 rfl) ?_
    refine va_get (D := (dC, dI)) (ci := 10) (v := .ref tx) (C := RX10) (T := TX10) (N := 52) hx hb hts (fun _ h => List.mem_cons_of_mem _ (List.mem_append_right _ h)) hown hK hP 0 rfl rfl 5 kc_l_5_52 (hts (.fieldLink RX10 23 "NotEndedModel" "text" "[B") (List.mem_cons_of_mem _ (List.mem_append_left _ (List.mem_of_getElem? (i := 2) rfl)))) (fun _ h9 => h9) rfl dX10_isDigit_12 ?_
    refine lv_aload_n hx hb dX10_isDigit_15 rfl (lv_at hl 0 rfl) ?_
    refine va_get (D := (dC, dI)) (ci := 10) (v := .int (nI (be))) (C := RX10) (T := TX10) (N := 52) hx hb hts (fun _ h => List.mem_cons_of_mem _ (List.mem_append_right _ h)) hown hK hP 0 rfl rfl 9 kc_l_9_52 (hts (.fieldLink RX10 147 "NotEndedModel" "begins" "I") (List.mem_cons_of_mem _ (List.mem_append_left _ (List.mem_of_getElem? (i := 3) rfl)))) (fun _ h9 => h9) rfl dX10_isDigit_16 ?_
    refine lv_aload_n hx hb dX10_isDigit_19 rfl (lv_at hl 0 rfl) ?_
    refine va_get (D := (dC, dI)) (ci := 10) (v := .int (nI (a))) (C := RX10) (T := TX10) (N := 52) hx hb hts (fun _ h => List.mem_cons_of_mem _ (List.mem_append_right _ h)) hown hK hP 0 rfl rfl 11 kc_l_11_52 (hts (.fieldLink RX10 141 "NotEndedModel" "at" "I") (List.mem_cons_of_mem _ (List.mem_append_left _ (List.mem_of_getElem? (i := 0) rfl)))) (fun _ h9 => h9) rfl dX10_isDigit_20 ?_
    refine lv_iadd hx hb dX10_isDigit_23 ?_
    refine lv_topi (fun y_8 ey_8 => ?_)
    obtain rfl : y_8 = nI (be + a) := ey_8.trans (nI_add (be) (a))
    have bd_9 : be + a < nT := by omega
    have bd_10 : nT < 2147483648 := by omega
    refine va_bald hx hb hK hP 1 0 rfl rfl (vp_in_nI (n := be + a) (N := nT) bd_9 bd_10) dX10_isDigit_24 ?_
    refine lv_topi (fun x_11 ex_11 => ?_)
    refine lv_bipush (v := 48) hx hb dX10_isDigit_25 kc_b_48 ?_
    refine lv_icmp_lt (tgt := 53) hx hb dX10_isDigit_27 kc_t_27_26 (fun c_12 => ?_) (fun c_12 => ?_)
    · refine lv_iconst (v := 0) hx hb dX10_isDigit_53 kc_i_0 ?_
      rw [hQ]
      exact W.zret (v := 0) hx hb hr rfl (fun t ht hW => ⟨0, rfl, ⟨Or.inl rfl, fun z9 => absurd rfl z9⟩, ht⟩) (fun _ h => nomatch h) dX10_isDigit_54
    · refine lv_aload_n hx hb dX10_isDigit_30 rfl (lv_at hl 0 rfl) ?_
      refine va_get (D := (dC, dI)) (ci := 10) (v := .ref tx) (C := RX10) (T := TX10) (N := 52) hx hb hts (fun _ h => List.mem_cons_of_mem _ (List.mem_append_right _ h)) hown hK hP 0 rfl rfl 5 kc_l_5_52 (hts (.fieldLink RX10 23 "NotEndedModel" "text" "[B") (List.mem_cons_of_mem _ (List.mem_append_left _ (List.mem_of_getElem? (i := 2) rfl)))) (fun _ h9 => h9) rfl dX10_isDigit_31 ?_
      refine lv_aload_n hx hb dX10_isDigit_34 rfl (lv_at hl 0 rfl) ?_
      refine va_get (D := (dC, dI)) (ci := 10) (v := .int (nI (be))) (C := RX10) (T := TX10) (N := 52) hx hb hts (fun _ h => List.mem_cons_of_mem _ (List.mem_append_right _ h)) hown hK hP 0 rfl rfl 9 kc_l_9_52 (hts (.fieldLink RX10 147 "NotEndedModel" "begins" "I") (List.mem_cons_of_mem _ (List.mem_append_left _ (List.mem_of_getElem? (i := 3) rfl)))) (fun _ h9 => h9) rfl dX10_isDigit_35 ?_
      refine lv_aload_n hx hb dX10_isDigit_38 rfl (lv_at hl 0 rfl) ?_
      refine va_get (D := (dC, dI)) (ci := 10) (v := .int (nI (a))) (C := RX10) (T := TX10) (N := 52) hx hb hts (fun _ h => List.mem_cons_of_mem _ (List.mem_append_right _ h)) hown hK hP 0 rfl rfl 11 kc_l_11_52 (hts (.fieldLink RX10 141 "NotEndedModel" "at" "I") (List.mem_cons_of_mem _ (List.mem_append_left _ (List.mem_of_getElem? (i := 0) rfl)))) (fun _ h9 => h9) rfl dX10_isDigit_39 ?_
      refine lv_iadd hx hb dX10_isDigit_42 ?_
      refine lv_topi (fun y_13 ey_13 => ?_)
      obtain rfl : y_13 = nI (be + a) := ey_13.trans (nI_add (be) (a))
      refine va_bald hx hb hK hP 1 0 rfl rfl (vp_in_nI (n := be + a) (N := nT) bd_9 bd_10) dX10_isDigit_43 ?_
      refine lv_topi (fun x_14 ex_14 => ?_)
      refine lv_bipush (v := 57) hx hb dX10_isDigit_44 kc_b_57 ?_
      refine lv_icmp_gt (tgt := 53) hx hb dX10_isDigit_46 kc_t_46_7 (fun c_15 => ?_) (fun c_15 => ?_)
      · refine lv_iconst (v := 0) hx hb dX10_isDigit_53 kc_i_0 ?_
        rw [hQ]
        exact W.zret (v := 0) hx hb hr rfl (fun t ht hW => ⟨0, rfl, ⟨Or.inl rfl, fun z9 => absurd rfl z9⟩, ht⟩) (fun _ h => nomatch h) dX10_isDigit_54
      · refine lv_iconst (v := 1) hx hb dX10_isDigit_49 kc_i_1 ?_
        refine lv_goto (tgt := 54) hx hb dX10_isDigit_50 kc_t_50_4 ?_
        rw [hQ]
        exact W.zret (v := 1) hx hb hr rfl (fun t ht hW => ⟨1, rfl, ⟨Or.inr rfl, fun _ => by omega⟩, ht⟩) (fun _ h => nomatch h) dX10_isDigit_54
