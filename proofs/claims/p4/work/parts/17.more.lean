theorem dX3_isSo_0 : decode cX3_isSo 0 = .ok (.aload_n 0, 1) := kDs0 kf_42 (by decide +kernel)
theorem dX3_isSo_1 : decode cX3_isSo 1 = .ok (.getfield 18, 3) := kDs2 kf_180 (by decide +kernel)
theorem dX3_isSo_4 : decode cX3_isSo 4 = .ok (.iload_n 2, 1) := kDs0 kf_28 (by decide +kernel)
theorem dX3_isSo_5 : decode cX3_isSo 5 = .ok (.iaload, 1) := kDs0 kf_46 (by decide +kernel)
theorem dX3_isSo_6 : decode cX3_isSo 6 = .ok (.ifCond .ne 38, 3) := kDs4 kf_154 (by decide +kernel)
theorem dX3_isSo_44 : decode cX3_isSo 44 = .ok (.aload_n 1, 1) := kDs0 kf_43 (by decide +kernel)
theorem dX3_isSo_45 : decode cX3_isSo 45 = .ok (.aload_n 0, 1) := kDs0 kf_42 (by decide +kernel)
theorem dX3_isSo_46 : decode cX3_isSo 46 = .ok (.getfield 9, 3) := kDs2 kf_180 (by decide +kernel)
theorem dX3_isSo_49 : decode cX3_isSo 49 = .ok (.iload_n 2, 1) := kDs0 kf_28 (by decide +kernel)
theorem dX3_isSo_50 : decode cX3_isSo 50 = .ok (.iaload, 1) := kDs0 kf_46 (by decide +kernel)
theorem dX3_isSo_51 : decode cX3_isSo 51 = .ok (.invokevirtual 50, 3) := kDs2 kf_182 (by decide +kernel)
theorem dX3_isSo_54 : decode cX3_isSo 54 = .ok (.aload_n 0, 1) := kDs0 kf_42 (by decide +kernel)
theorem dX3_isSo_55 : decode cX3_isSo 55 = .ok (.getfield 21, 3) := kDs2 kf_180 (by decide +kernel)
theorem dX3_isSo_58 : decode cX3_isSo 58 = .ok (.iload_n 2, 1) := kDs0 kf_28 (by decide +kernel)
theorem dX3_isSo_59 : decode cX3_isSo 59 = .ok (.iaload, 1) := kDs0 kf_46 (by decide +kernel)
theorem dX3_isSo_60 : decode cX3_isSo 60 = .ok (.if_icmp .ne 7, 3) := kDs4 kf_160 (by decide +kernel)
theorem dX3_isSo_67 : decode cX3_isSo 67 = .ok (.iconst 0, 1) := kDs0 kf_3 (by decide +kernel)
theorem dX3_isSo_68 : decode cX3_isSo 68 = .ok (.ireturn, 1) := kDs0 kf_172 (by decide +kernel)
theorem dX3_isSo_63 : decode cX3_isSo 63 = .ok (.iconst 1, 1) := kDs0 kf_4 (by decide +kernel)
theorem dX3_isSo_64 : decode cX3_isSo 64 = .ok (.goto 4, 3) := kDs4 kf_167 (by decide +kernel)
theorem dX3_isSo_9 : decode cX3_isSo 9 = .ok (.aload_n 1, 1) := kDs0 kf_43 (by decide +kernel)
theorem dX3_isSo_10 : decode cX3_isSo 10 = .ok (.aload_n 0, 1) := kDs0 kf_42 (by decide +kernel)
theorem dX3_isSo_11 : decode cX3_isSo 11 = .ok (.getfield 9, 3) := kDs2 kf_180 (by decide +kernel)
theorem dX3_isSo_14 : decode cX3_isSo 14 = .ok (.iload_n 2, 1) := kDs0 kf_28 (by decide +kernel)
theorem dX3_isSo_15 : decode cX3_isSo 15 = .ok (.iaload, 1) := kDs0 kf_46 (by decide +kernel)
theorem dX3_isSo_16 : decode cX3_isSo 16 = .ok (.invokevirtual 39, 3) := kDs2 kf_182 (by decide +kernel)
theorem dX3_isSo_19 : decode cX3_isSo 19 = .ok (.aload_n 0, 1) := kDs0 kf_42 (by decide +kernel)
theorem dX3_isSo_20 : decode cX3_isSo 20 = .ok (.getfield 21, 3) := kDs2 kf_180 (by decide +kernel)
theorem dX3_isSo_23 : decode cX3_isSo 23 = .ok (.iload_n 2, 1) := kDs0 kf_28 (by decide +kernel)
theorem dX3_isSo_24 : decode cX3_isSo 24 = .ok (.iaload, 1) := kDs0 kf_46 (by decide +kernel)
theorem dX3_isSo_25 : decode cX3_isSo 25 = .ok (.isub, 1) := kDs0 kf_100 (by decide +kernel)
theorem dX3_isSo_26 : decode cX3_isSo 26 = .ok (.invokestatic 45, 3) := kDs2 kf_184 (by decide +kernel)
theorem dX3_isSo_29 : decode cX3_isSo 29 = .ok (.aload_n 0, 1) := kDs0 kf_42 (by decide +kernel)
theorem dX3_isSo_30 : decode cX3_isSo 30 = .ok (.getfield 24, 3) := kDs2 kf_180 (by decide +kernel)
theorem dX3_isSo_33 : decode cX3_isSo 33 = .ok (.iload_n 2, 1) := kDs0 kf_28 (by decide +kernel)
theorem dX3_isSo_34 : decode cX3_isSo 34 = .ok (.iaload, 1) := kDs0 kf_46 (by decide +kernel)
theorem dX3_isSo_35 : decode cX3_isSo 35 = .ok (.if_icmp .gt 7, 3) := kDs4 kf_163 (by decide +kernel)
theorem dX3_isSo_42 : decode cX3_isSo 42 = .ok (.iconst 0, 1) := kDs0 kf_3 (by decide +kernel)
theorem dX3_isSo_43 : decode cX3_isSo 43 = .ok (.ireturn, 1) := kDs0 kf_172 (by decide +kernel)
theorem dX3_isSo_38 : decode cX3_isSo 38 = .ok (.iconst 1, 1) := kDs0 kf_4 (by decide +kernel)
theorem dX3_isSo_39 : decode cX3_isSo 39 = .ok (.goto 4, 3) := kDs4 kf_167 (by decide +kernel)
def w_s_isSo3 : List Cond := .code yX3_isSo cX3_isSo 3 (some .boolean) :: ([.fieldLink RX3 18 "NotEnded$Notebook" "kinds" "[I", .fieldLink RX3 9 "NotEnded$Notebook" "persons" "[I", .initialized RX1, .selects RX1 yX1_placeOf yX1_placeOf, .instanceMethod yX1_placeOf, .methodLink RX3 50 yX1_placeOf, .fieldLink RX3 21 "NotEnded$Notebook" "values" "[I", .selects RX1 yX1_heldBy yX1_heldBy, .instanceMethod yX1_heldBy, .methodLink RX3 39 yX1_heldBy, .methodLink RX3 45 Lib.Math.abs.name, .static Lib.Math.abs.name, .initialized RJ9, .code Lib.Math.abs.name Lib.Math.abs.code 1 (some .int), .fieldLink RX3 24 "NotEnded$Notebook" "offs" "[I"] ++ (wsX30 ++ (w_s_placeOf1 ++ (w_s_heldBy1))))
theorem gw_s_isSo3 : (w_s_isSo3).all goodWord = true := kGc rfl (kGa (by decide +kernel) (kGa gw_wsX30 (kGa gw_s_placeOf1 gw_s_heldBy1)))
theorem hd_X3_isSo : yX3_isSo.cls ≠ "java/lang/invoke/MethodHandle" ∧ yX3_isSo.cls ≠ "java/lang/invoke/VarHandle" ∧ (parseMethodDescriptor yX3_isSo.desc).map (fun d => d.parameters.length) = some 2 := by decide +kernel
set_option maxHeartbeats 4000000 in
set_option maxRecDepth 100000 in
theorem s_isSo3 (l : Launch) (dC : Nat → ClassId) (dI : Nat → Nat → Nat) (jC : Nat) (d2 : Nat) (d3 : Nat) (d4 : Nat) (d5 : Nat) (d6 : Nat) (d7 : Nat) (d8 : Nat) (d9 : Nat) (d10 : Nat) (d11 : Nat) (d12 : Nat) (d13 : Nat) (w2 : ClassId) (w3 : ClassId) (w4 : ClassId) (w5 : ClassId) (w6 : ClassId) (w7 : ClassId) (w8 : ClassId) (w9 : ClassId) (w10 : ClassId) (w11 : ClassId) (w12 : ClassId) (w13 : ClassId) (e2 : Nat → Int32) (e3 : Nat → Int32) (e4 : Nat → Int32) (e5 : Nat → Int32) (e6 : Nat → Int32) (e7 : Nat → Int32) (e8 : Nat → Int32) (e9 : Nat → Int32) (e10 : Nat → Int32) (e11 : Nat → Int32) (e12 : Nat → Int32) (e13 : Nat → Int64) (dr : Int64) (pr : Int32) (mo : Int32) (ho : Int32) (hF : Nat) (f0 : Nat) (f1 : Nat) (f2 : Nat) (f3 : Nat) (f4 : Nat) (z0 : ClassId) (z1 : ClassId) (z2 : ClassId) (z3 : ClassId) (z4 : ClassId) (g0 : Nat → Int32) (g1 : Nat → Int32) (g2 : Nat → Int32) (g3 : Nat → Int32) (g4 : Nat → Int32) (sn : Int32) (ks : Nat) (kw : Nat) (hks : ks ≤ 10) (hkw : kw ≤ 4) (jK : Nat) (k0 : Nat) (k1 : Nat) (cK : ClassId) (cO : ClassId) (l0 : Nat → Int32) (l1 : Nat → Int32) (ru : Nat) (sA : Nat) (cl : Nat) (cS : ClassId) (cc : ClassId) (nS : Nat) (nC : Nat) (gS : Nat → Int32) (gC : Nat → Int32) (hnS : nS ≤ 200) (hnC : nC ≤ 200) (A : Nat → Prop) (hN : Nat) (o0 : Nat) (o1 : Nat) (o2 : Nat) (o3 : Nat) (o4 : Nat) (y0 : ClassId) (y1 : ClassId) (y2 : ClassId) (y3 : ClassId) (y4 : ClassId) (q0 : Nat → Int32) (q1 : Nat → Int32) (q2 : Nat → Int32) (q3 : Nat → Int32) (q4 : Nat → Int32) (kn : Nat) (hkn : kn ≤ 20) (pk : Nat) (hpk : pk < kn) : Met l yX3_isSo w_s_isSo3 ({ frames := 4, cells := 0, slots := 0, locals := 240 }) (kR dC dI [.ref hN, .ref jC, .int (nI (pk))] [(hN, .inr (3, [.ref o0, .ref o1, .ref o2, .ref o3, .ref o4, .int (nI (kn))])), (o0, .inl (y0, 20, .inl q0)), (o1, .inl (y1, 20, .inl q1)), (o2, .inl (y2, 20, .inl q2)), (o3, .inl (y3, 20, .inl q3)), (o4, .inl (y4, 20, .inl q4)), (jC, .inr (1, [.ref hF, .ref jK, .ref d2, .ref d3, .ref d4, .ref d5, .ref d6, .ref d7, .ref d8, .ref d9, .ref d10, .ref d11, .ref d12, .ref d13, .ref ru, .long dr, .int pr, .int mo, .int ho])), (d2, .inl (w2, 10, .inl e2)), (d3, .inl (w3, 10, .inl e3)), (d4, .inl (w4, 10, .inl e4)), (d5, .inl (w5, 10, .inl e5)), (d6, .inl (w6, 10, .inl e6)), (d7, .inl (w7, 10, .inl e7)), (d8, .inl (w8, 10, .inl e8)), (d9, .inl (w9, 10, .inl e9)), (d10, .inl (w10, 4, .inl e10)), (d11, .inl (w11, 4, .inl e11)), (d12, .inl (w12, 4, .inl e12)), (d13, .inl (w13, 9, .inr (.inl e13))), (hF, .inr (2, [.ref f0, .ref f1, .ref f2, .ref f3, .ref f4, .int sn, .int (nI (ks)), .int (nI (kw))])), (f0, .inl (z0, 10, .inl g0)), (f1, .inl (z1, 10, .inl g1)), (f2, .inl (z2, 10, .inl g2)), (f3, .inl (z3, 10, .inl g3)), (f4, .inl (z4, 4, .inl g4)), (jK, .inr (5, [.ref k0, .ref k1])), (k0, .inl (cK, 8, .inl l0)), (k1, .inl (cO, 32, .inl l1))] [(y0, .int), (y1, .int), (y2, .int), (y3, .int), (y4, .int), (w2, .int), (w3, .int), (w4, .int), (w5, .int), (w6, .int), (w7, .int), (w8, .int), (w9, .int), (w10, .int), (w11, .int), (w12, .int), (w13, .long), (z0, .int), (z1, .int), (z2, .int), (z3, .int), (z4, .int), (cK, .int), (cO, .int), (cS, .int), (cc, .int)] (kNF dC dI [(ru, .inr (6, [.ref sA, .ref cl])), (sA, .inl (cS, nS, .inl gS)), (cl, .inl (cc, nC, .inl gC))] A)) (vp_Si (fun r : Int32 => (r = 0 ∨ r = 1))) 0 0 (fun _ => False) := by
  refine Met.ofW (cc := cX3_isSo) (maxL := 3) (ret := (some .boolean)) (by decide) rfl ?_
  intro p e s m args below meth c s₁ B hml hv
  obtain ⟨rfl, hP, hK, hX⟩ := hv
  have hx := B.exec
  have hb := B.bytes
  have hr := B.returns
  have hts := atoms_spec (ws := w_s_isSo3) B.pre
  have hown : s.vm.findClass RX3 = some m.cls := findClass_of_methodNamed B.named
  have hlocks := B.notSynchronized
  have hS : va_S A s.heap s.heap [] := va_S.rf
  have hP : va_P (dC, dI) vwCl [(hN, .inr (3, [.ref o0, .ref o1, .ref o2, .ref o3, .ref o4, .int (nI (kn))])), (o0, .inl (y0, 20, .inl q0)), (o1, .inl (y1, 20, .inl q1)), (o2, .inl (y2, 20, .inl q2)), (o3, .inl (y3, 20, .inl q3)), (o4, .inl (y4, 20, .inl q4)), (jC, .inr (1, [.ref hF, .ref jK, .ref d2, .ref d3, .ref d4, .ref d5, .ref d6, .ref d7, .ref d8, .ref d9, .ref d10, .ref d11, .ref d12, .ref d13, .ref ru, .long dr, .int pr, .int mo, .int ho])), (d2, .inl (w2, 10, .inl e2)), (d3, .inl (w3, 10, .inl e3)), (d4, .inl (w4, 10, .inl e4)), (d5, .inl (w5, 10, .inl e5)), (d6, .inl (w6, 10, .inl e6)), (d7, .inl (w7, 10, .inl e7)), (d8, .inl (w8, 10, .inl e8)), (d9, .inl (w9, 10, .inl e9)), (d10, .inl (w10, 4, .inl e10)), (d11, .inl (w11, 4, .inl e11)), (d12, .inl (w12, 4, .inl e12)), (d13, .inl (w13, 9, .inr (.inl e13))), (hF, .inr (2, [.ref f0, .ref f1, .ref f2, .ref f3, .ref f4, .int sn, .int (nI (ks)), .int (nI (kw))])), (f0, .inl (z0, 10, .inl g0)), (f1, .inl (z1, 10, .inl g1)), (f2, .inl (z2, 10, .inl g2)), (f3, .inl (z3, 10, .inl g3)), (f4, .inl (z4, 4, .inl g4)), (jK, .inr (5, [.ref k0, .ref k1])), (k0, .inl (cK, 8, .inl l0)), (k1, .inl (cO, 32, .inl l1))] s.heap := hP
  have hl := lv_entry ([.ref hN, .ref jC, .int (nI (pk))]) (n := 3) (Nat.le_of_ble_eq_true rfl)
  rw [lg_entry_eq]
  generalize (lg_sl ([.ref hN, .ref jC, .int (nI (pk))]) ++ List.replicate (3 - (lg_sl ([.ref hN, .ref jC, .int (nI (pk))])).length) Slot.unset).toArray = ls at hl ⊢
  have hl : lv_has ls 3 [(0, .ref hN), (1, .ref jC), (2, .int (nI (pk)))] := hl
  refine kQ (fun Q hQ => ?_)
  refine lv_aload_n hx hb dX3_isSo_0 rfl (lv_at hl 0 rfl) ?_
  refine va_get (D := (dC, dI)) (ci := 3) (v := .ref o2) (C := RX3) (T := TX3) (N := 6) hx hb hts (fun _ h => List.mem_cons_of_mem _ (List.mem_append_right _ (List.mem_append_left _ h))) hown hK hP 0 rfl rfl 2 kc_l_2_6 (hts (.fieldLink RX3 18 "NotEnded$Notebook" "kinds" "[I") (List.mem_cons_of_mem _ (List.mem_append_left _ (List.mem_of_getElem? (i := 0) rfl)))) (fun _ h9 => h9) rfl dX3_isSo_1 ?_
  refine lv_iload_n hx hb dX3_isSo_4 rfl (lv_at hl 2 rfl) ?_
  have bd_1 : pk < 20 := by omega
  refine va_iald hx hb hK hP 3 2 rfl rfl (vp_in_nI (n := pk) (N := 20) bd_1 kc_31_20) dX3_isSo_5 ?_
  refine lv_topi (fun x_2 ex_2 => ?_)
  refine lv_if_ne (tgt := 44) hx hb dX3_isSo_6 kc_t_6_38 (fun c_3 => ?_) (fun c_3 => ?_)
  · refine lv_aload_n hx hb dX3_isSo_44 rfl (lv_at hl 1 rfl) ?_
    refine lv_aload_n hx hb dX3_isSo_45 rfl (lv_at hl 0 rfl) ?_
    refine va_get (D := (dC, dI)) (ci := 3) (v := .ref o0) (C := RX3) (T := TX3) (N := 6) hx hb hts (fun _ h => List.mem_cons_of_mem _ (List.mem_append_right _ (List.mem_append_left _ h))) hown hK hP 0 rfl rfl 0 kc_l_0_6 (hts (.fieldLink RX3 9 "NotEnded$Notebook" "persons" "[I") (List.mem_cons_of_mem _ (List.mem_append_left _ (List.mem_of_getElem? (i := 1) rfl)))) (fun _ h9 => h9) rfl dX3_isSo_46 ?_
    refine lv_iload_n hx hb dX3_isSo_49 rfl (lv_at hl 2 rfl) ?_
    refine va_iald hx hb hK hP 1 0 rfl rfl (vp_in_nI (n := pk) (N := 20) bd_1 kc_31_20) dX3_isSo_50 ?_
    refine lv_topi (fun x_4 ex_4 => ?_)
    have hPc := hP.sb (ws2 := [(jC, .inr (1, [.ref hF, .ref jK, .ref d2, .ref d3, .ref d4, .ref d5, .ref d6, .ref d7, .ref d8, .ref d9, .ref d10, .ref d11, .ref d12, .ref d13, .ref ru, .long dr, .int pr, .int mo, .int ho])), (d2, .inl (w2, 10, .inl e2)), (d3, .inl (w3, 10, .inl e3)), (d4, .inl (w4, 10, .inl e4)), (d5, .inl (w5, 10, .inl e5)), (d6, .inl (w6, 10, .inl e6)), (d7, .inl (w7, 10, .inl e7)), (d8, .inl (w8, 10, .inl e8)), (d9, .inl (w9, 10, .inl e9)), (d10, .inl (w10, 4, .inl e10)), (d11, .inl (w11, 4, .inl e11)), (d12, .inl (w12, 4, .inl e12)), (d13, .inl (w13, 9, .inr (.inl e13))), (hF, .inr (2, [.ref f0, .ref f1, .ref f2, .ref f3, .ref f4, .int sn, .int (nI (ks)), .int (nI (kw))])), (f0, .inl (z0, 10, .inl g0)), (f1, .inl (z1, 10, .inl g1)), (f2, .inl (z2, 10, .inl g2)), (f3, .inl (z3, 10, .inl g3)), (f4, .inl (z4, 4, .inl g4)), (jK, .inr (5, [.ref k0, .ref k1])), (k0, .inl (cK, 8, .inl l0)), (k1, .inl (cO, 32, .inl l1))]) [6, 7, 8, 9, 10, 11, 12, 13, 14, 15, 16, 17, 18, 19, 20, 21, 22, 23, 24, 25, 26, 27] rfl
    have hKc := hK.sb (tys2 := [(w2, .int), (w3, .int), (w4, .int), (w5, .int), (w6, .int), (w7, .int), (w8, .int), (w9, .int), (w10, .int), (w11, .int), (w12, .int), (w13, .long), (z0, .int), (z1, .int), (z2, .int), (z3, .int), (z4, .int), (cK, .int), (cO, .int), (cS, .int), (cc, .int)]) [5, 6, 7, 8, 9, 10, 11, 12, 13, 14, 15, 16, 17, 18, 19, 20, 21, 22, 23, 24, 25] rfl
    refine vp_callSi (va_runV (As := [.int x_4]) (rest := []) ⟨hx, hb, hml, hown, hts⟩ (s_placeOf1 l dC dI jC d2 d3 d4 d5 d6 d7 d8 d9 d10 d11 d12 d13 w2 w3 w4 w5 w6 w7 w8 w9 w10 w11 w12 w13 e2 e3 e4 e5 e6 e7 e8 e9 e10 e11 e12 e13 dr pr mo ho hF f0 f1 f2 f3 f4 z0 z1 z2 z3 z4 g0 g1 g2 g3 g4 sn ks kw hks hkw jK k0 k1 cK cO l0 l1 ru sA cl cS cc nS nC gS gC hnS hnC A x_4) (cwV 1 hts (kG (List.forall_mem_cons.mpr ⟨(List.mem_cons_of_mem _ (List.mem_append_left _ (List.mem_of_getElem? (i := 5) rfl))), (List.forall_mem_cons.mpr ⟨(List.mem_cons_of_mem _ (List.mem_append_left _ (List.mem_of_getElem? (i := 4) rfl))), (List.forall_mem_cons.mpr ⟨(List.mem_cons_of_mem _ (List.mem_append_left _ (List.mem_of_getElem? (i := 3) rfl))), (List.forall_mem_cons.mpr ⟨(List.mem_cons_of_mem _ (List.mem_append_left _ (List.mem_of_getElem? (i := 2) rfl))), (fun _ h => absurd h List.not_mem_nil)⟩)⟩)⟩)⟩) (kGV _ _ _ _) (fun _ h => List.mem_cons_of_mem _ (List.mem_append_right _ (List.mem_append_right _ (List.mem_append_left _ h)))) gw_s_placeOf1) rfl rfl rfl ⟨rfl, hd_X1_placeOf⟩ ⟨(Nat.le_of_ble_eq_true rfl), (Nat.le_of_ble_eq_true rfl)⟩) (kR_V kNF_blind (kNF_give hX hS (fun _ h => h)) (va_recv hKc hPc (ci := 1) (q0 := 0) rfl rfl) hPc hKc) rfl rfl hl.1 rfl (lv_room (Nat.le_of_ble_eq_true rfl)) dX3_isSo_51 ⟨(Nat.le_of_ble_eq_true rfl), (Nat.le_of_ble_eq_true rfl)⟩).run (fun r_5 hw => ?_)
    refine lv_aload_n hx hb dX3_isSo_54 rfl (lv_at hl 0 rfl) ?_
    refine va_get (D := (dC, dI)) (ci := 3) (v := .ref o3) (C := RX3) (T := TX3) (N := 6) hx hb hts (fun _ h => List.mem_cons_of_mem _ (List.mem_append_right _ (List.mem_append_left _ h))) hown hK hP 0 rfl rfl 3 kc_l_3_6 (hts (.fieldLink RX3 21 "NotEnded$Notebook" "values" "[I") (List.mem_cons_of_mem _ (List.mem_append_left _ (List.mem_of_getElem? (i := 6) rfl)))) (fun _ h9 => h9) rfl dX3_isSo_55 ?_
    refine lv_iload_n hx hb dX3_isSo_58 rfl (lv_at hl 2 rfl) ?_
    refine va_iald hx hb hK hP 4 3 rfl rfl (vp_in_nI (n := pk) (N := 20) bd_1 kc_31_20) dX3_isSo_59 ?_
    refine lv_topi (fun x_6 ex_6 => ?_)
    refine lv_icmp_ne (tgt := 67) hx hb dX3_isSo_60 kc_t_60_7 (fun c_7 => ?_) (fun c_7 => ?_)
    · refine lv_iconst (v := 0) hx hb dX3_isSo_67 kc_i_0 ?_
      rw [hQ]
      exact W.zret (v := 0) hx hb hr rfl (fun t ht hW => ⟨0, rfl, (Or.inl rfl), ht⟩) (fun _ h => nomatch h) dX3_isSo_68
    · refine lv_iconst (v := 1) hx hb dX3_isSo_63 kc_i_1 ?_
      refine lv_goto (tgt := 68) hx hb dX3_isSo_64 kc_t_64_4 ?_
      rw [hQ]
      exact W.zret (v := 1) hx hb hr rfl (fun t ht hW => ⟨1, rfl, (Or.inr rfl), ht⟩) (fun _ h => nomatch h) dX3_isSo_68
  · refine lv_aload_n hx hb dX3_isSo_9 rfl (lv_at hl 1 rfl) ?_
    refine lv_aload_n hx hb dX3_isSo_10 rfl (lv_at hl 0 rfl) ?_
    refine va_get (D := (dC, dI)) (ci := 3) (v := .ref o0) (C := RX3) (T := TX3) (N := 6) hx hb hts (fun _ h => List.mem_cons_of_mem _ (List.mem_append_right _ (List.mem_append_left _ h))) hown hK hP 0 rfl rfl 0 kc_l_0_6 (hts (.fieldLink RX3 9 "NotEnded$Notebook" "persons" "[I") (List.mem_cons_of_mem _ (List.mem_append_left _ (List.mem_of_getElem? (i := 1) rfl)))) (fun _ h9 => h9) rfl dX3_isSo_11 ?_
    refine lv_iload_n hx hb dX3_isSo_14 rfl (lv_at hl 2 rfl) ?_
    refine va_iald hx hb hK hP 1 0 rfl rfl (vp_in_nI (n := pk) (N := 20) bd_1 kc_31_20) dX3_isSo_15 ?_
    refine lv_topi (fun x_8 ex_8 => ?_)
    have hPc := hP.sb (ws2 := [(jC, .inr (1, [.ref hF, .ref jK, .ref d2, .ref d3, .ref d4, .ref d5, .ref d6, .ref d7, .ref d8, .ref d9, .ref d10, .ref d11, .ref d12, .ref d13, .ref ru, .long dr, .int pr, .int mo, .int ho])), (d2, .inl (w2, 10, .inl e2)), (d3, .inl (w3, 10, .inl e3)), (d4, .inl (w4, 10, .inl e4)), (d5, .inl (w5, 10, .inl e5)), (d6, .inl (w6, 10, .inl e6)), (d7, .inl (w7, 10, .inl e7)), (d8, .inl (w8, 10, .inl e8)), (d9, .inl (w9, 10, .inl e9)), (d10, .inl (w10, 4, .inl e10)), (d11, .inl (w11, 4, .inl e11)), (d12, .inl (w12, 4, .inl e12)), (d13, .inl (w13, 9, .inr (.inl e13))), (hF, .inr (2, [.ref f0, .ref f1, .ref f2, .ref f3, .ref f4, .int sn, .int (nI (ks)), .int (nI (kw))])), (f0, .inl (z0, 10, .inl g0)), (f1, .inl (z1, 10, .inl g1)), (f2, .inl (z2, 10, .inl g2)), (f3, .inl (z3, 10, .inl g3)), (f4, .inl (z4, 4, .inl g4)), (jK, .inr (5, [.ref k0, .ref k1])), (k0, .inl (cK, 8, .inl l0)), (k1, .inl (cO, 32, .inl l1))]) [6, 7, 8, 9, 10, 11, 12, 13, 14, 15, 16, 17, 18, 19, 20, 21, 22, 23, 24, 25, 26, 27] rfl
    have hKc := hK.sb (tys2 := [(w2, .int), (w3, .int), (w4, .int), (w5, .int), (w6, .int), (w7, .int), (w8, .int), (w9, .int), (w10, .int), (w11, .int), (w12, .int), (w13, .long), (z0, .int), (z1, .int), (z2, .int), (z3, .int), (z4, .int), (cK, .int), (cO, .int), (cS, .int), (cc, .int)]) [5, 6, 7, 8, 9, 10, 11, 12, 13, 14, 15, 16, 17, 18, 19, 20, 21, 22, 23, 24, 25] rfl
    refine vp_callSi (va_runV (As := [.int x_8]) (rest := []) ⟨hx, hb, hml, hown, hts⟩ (s_heldBy1 l dC dI jC d2 d3 d4 d5 d6 d7 d8 d9 d10 d11 d12 d13 w2 w3 w4 w5 w6 w7 w8 w9 w10 w11 w12 w13 e2 e3 e4 e5 e6 e7 e8 e9 e10 e11 e12 e13 dr pr mo ho hF f0 f1 f2 f3 f4 z0 z1 z2 z3 z4 g0 g1 g2 g3 g4 sn ks kw hks hkw jK k0 k1 cK cO l0 l1 ru sA cl cS cc nS nC gS gC hnS hnC A x_8) (cwV 1 hts (kG (List.forall_mem_cons.mpr ⟨(List.mem_cons_of_mem _ (List.mem_append_left _ (List.mem_of_getElem? (i := 9) rfl))), (List.forall_mem_cons.mpr ⟨(List.mem_cons_of_mem _ (List.mem_append_left _ (List.mem_of_getElem? (i := 8) rfl))), (List.forall_mem_cons.mpr ⟨(List.mem_cons_of_mem _ (List.mem_append_left _ (List.mem_of_getElem? (i := 7) rfl))), (List.forall_mem_cons.mpr ⟨(List.mem_cons_of_mem _ (List.mem_append_left _ (List.mem_of_getElem? (i := 2) rfl))), (fun _ h => absurd h List.not_mem_nil)⟩)⟩)⟩)⟩) (kGV _ _ _ _) (fun _ h => List.mem_cons_of_mem _ (List.mem_append_right _ (List.mem_append_right _ (List.mem_append_right _ h)))) gw_s_heldBy1) rfl rfl rfl ⟨rfl, hd_X1_heldBy⟩ ⟨(Nat.le_of_ble_eq_true rfl), (Nat.le_of_ble_eq_true rfl)⟩) (kR_V kNF_blind (kNF_give hX hS (fun _ h => h)) (va_recv hKc hPc (ci := 1) (q0 := 0) rfl rfl) hPc hKc) rfl rfl hl.1 rfl (lv_room (Nat.le_of_ble_eq_true rfl)) dX3_isSo_16 ⟨(Nat.le_of_ble_eq_true rfl), (Nat.le_of_ble_eq_true rfl)⟩).run (fun r_9 hw => ?_)
    refine lv_aload_n hx hb dX3_isSo_19 rfl (lv_at hl 0 rfl) ?_
    refine va_get (D := (dC, dI)) (ci := 3) (v := .ref o3) (C := RX3) (T := TX3) (N := 6) hx hb hts (fun _ h => List.mem_cons_of_mem _ (List.mem_append_right _ (List.mem_append_left _ h))) hown hK hP 0 rfl rfl 3 kc_l_3_6 (hts (.fieldLink RX3 21 "NotEnded$Notebook" "values" "[I") (List.mem_cons_of_mem _ (List.mem_append_left _ (List.mem_of_getElem? (i := 6) rfl)))) (fun _ h9 => h9) rfl dX3_isSo_20 ?_
    refine lv_iload_n hx hb dX3_isSo_23 rfl (lv_at hl 2 rfl) ?_
    refine va_iald hx hb hK hP 4 3 rfl rfl (vp_in_nI (n := pk) (N := 20) bd_1 kc_31_20) dX3_isSo_24 ?_
    refine lv_topi (fun x_10 ex_10 => ?_)
    refine lv_isub hx hb dX3_isSo_25 ?_
    refine lv_topi (fun x_11 ex_11 => ?_)
    refine va_mabs hx hb (hml.trans hl.1.symm) hown (hts (.methodLink RX3 45 Lib.Math.abs.name) (List.mem_cons_of_mem _ (List.mem_append_left _ (List.mem_of_getElem? (i := 10) rfl)))) (hts (.static Lib.Math.abs.name) (List.mem_cons_of_mem _ (List.mem_append_left _ (List.mem_of_getElem? (i := 11) rfl)))) (hts (.initialized RJ9) (List.mem_cons_of_mem _ (List.mem_append_left _ (List.mem_of_getElem? (i := 12) rfl)))) (hts (.code Lib.Math.abs.name Lib.Math.abs.code 1 (some .int)) (List.mem_cons_of_mem _ (List.mem_append_left _ (List.mem_of_getElem? (i := 13) rfl)))) (Nat.le_of_ble_eq_true rfl) (Nat.le_of_ble_eq_true rfl) (Nat.le_of_ble_eq_true rfl) (Nat.le_of_ble_eq_true rfl) dX3_isSo_26 ?_
    refine lv_topi (fun x_12 ex_12 => ?_)
    refine lv_aload_n hx hb dX3_isSo_29 rfl (lv_at hl 0 rfl) ?_
    refine va_get (D := (dC, dI)) (ci := 3) (v := .ref o4) (C := RX3) (T := TX3) (N := 6) hx hb hts (fun _ h => List.mem_cons_of_mem _ (List.mem_append_right _ (List.mem_append_left _ h))) hown hK hP 0 rfl rfl 4 kc_l_4_6 (hts (.fieldLink RX3 24 "NotEnded$Notebook" "offs" "[I") (List.mem_cons_of_mem _ (List.mem_append_left _ (List.mem_of_getElem? (i := 14) rfl)))) (fun _ h9 => h9) rfl dX3_isSo_30 ?_
    refine lv_iload_n hx hb dX3_isSo_33 rfl (lv_at hl 2 rfl) ?_
    refine va_iald hx hb hK hP 5 4 rfl rfl (vp_in_nI (n := pk) (N := 20) bd_1 kc_31_20) dX3_isSo_34 ?_
    refine lv_topi (fun x_13 ex_13 => ?_)
    refine lv_icmp_gt (tgt := 42) hx hb dX3_isSo_35 kc_t_35_7 (fun c_14 => ?_) (fun c_14 => ?_)
    · refine lv_iconst (v := 0) hx hb dX3_isSo_42 kc_i_0 ?_
      rw [hQ]
      exact W.zret (v := 0) hx hb hr rfl (fun t ht hW => ⟨0, rfl, (Or.inl rfl), ht⟩) (fun _ h => nomatch h) dX3_isSo_43
    · refine lv_iconst (v := 1) hx hb dX3_isSo_38 kc_i_1 ?_
      refine lv_goto (tgt := 43) hx hb dX3_isSo_39 kc_t_39_4 ?_
      rw [hQ]
      exact W.zret (v := 1) hx hb hr rfl (fun t ht hW => ⟨1, rfl, (Or.inr rfl), ht⟩) (fun _ h => nomatch h) dX3_isSo_43

theorem dX3_agrees_0 : decode cX3_agrees 0 = .ok (.aload_n 1, 1) := kDs0 kf_43 (by decide +kernel)
theorem dX3_agrees_1 : decode cX3_agrees 1 = .ok (.ifnonnull 5, 3) := kDs4 kf_199 (by decide +kernel)
theorem dX3_agrees_6 : decode cX3_agrees 6 = .ok (.iconst 0, 1) := kDs0 kf_3 (by decide +kernel)
theorem dX3_agrees_7 : decode cX3_agrees 7 = .ok (.istore 4, 2) := kDs1 kf_54 (by decide +kernel)
theorem dX3_agrees_9 : decode cX3_agrees 9 = .ok (.iload 4, 2) := kDs1 kf_21 (by decide +kernel)
theorem dX3_agrees_11 : decode cX3_agrees 11 = .ok (.aload_n 0, 1) := kDs0 kf_42 (by decide +kernel)
theorem dX3_agrees_12 : decode cX3_agrees 12 = .ok (.getfield 27, 3) := kDs2 kf_180 (by decide +kernel)
theorem dX3_agrees_15 : decode cX3_agrees 15 = .ok (.if_icmp .ge 46, 3) := kDs4 kf_162 (by decide +kernel)
theorem dX3_agrees_61 : decode cX3_agrees 61 = .ok (.iconst 1, 1) := kDs0 kf_4 (by decide +kernel)
theorem dX3_agrees_62 : decode cX3_agrees 62 = .ok (.ireturn, 1) := kDs0 kf_172 (by decide +kernel)
theorem dX3_agrees_18 : decode cX3_agrees 18 = .ok (.aload_n 0, 1) := kDs0 kf_42 (by decide +kernel)
theorem dX3_agrees_19 : decode cX3_agrees 19 = .ok (.getfield 15, 3) := kDs2 kf_180 (by decide +kernel)
theorem dX3_agrees_22 : decode cX3_agrees 22 = .ok (.iload 4, 2) := kDs1 kf_21 (by decide +kernel)
theorem dX3_agrees_24 : decode cX3_agrees 24 = .ok (.iaload, 1) := kDs0 kf_46 (by decide +kernel)
theorem dX3_agrees_25 : decode cX3_agrees 25 = .ok (.iload_n 2, 1) := kDs0 kf_28 (by decide +kernel)
theorem dX3_agrees_26 : decode cX3_agrees 26 = .ok (.if_icmp .ne 29, 3) := kDs4 kf_160 (by decide +kernel)
theorem dX3_agrees_55 : decode cX3_agrees 55 = .ok (.iinc 4 1, 3) := kDs5 kf_132 (by decide +kernel)
theorem dX3_agrees_58 : decode cX3_agrees 58 = .ok (.goto (-49), 3) := kDs4 kf_167 (by decide +kernel)
theorem dX3_agrees_29 : decode cX3_agrees 29 = .ok (.iload_n 3, 1) := kDs0 kf_29 (by decide +kernel)
theorem dX3_agrees_30 : decode cX3_agrees 30 = .ok (.aload_n 0, 1) := kDs0 kf_42 (by decide +kernel)
theorem dX3_agrees_31 : decode cX3_agrees 31 = .ok (.getfield 9, 3) := kDs2 kf_180 (by decide +kernel)
theorem dX3_agrees_34 : decode cX3_agrees 34 = .ok (.iload 4, 2) := kDs1 kf_21 (by decide +kernel)
theorem dX3_agrees_36 : decode cX3_agrees 36 = .ok (.iaload, 1) := kDs0 kf_46 (by decide +kernel)
theorem dX3_agrees_37 : decode cX3_agrees 37 = .ok (.invokestatic 31, 3) := kDs2 kf_184 (by decide +kernel)
theorem dX3_agrees_40 : decode cX3_agrees 40 = .ok (.ifCond .eq 15, 3) := kDs4 kf_153 (by decide +kernel)
theorem dX3_agrees_43 : decode cX3_agrees 43 = .ok (.aload_n 0, 1) := kDs0 kf_42 (by decide +kernel)
theorem dX3_agrees_44 : decode cX3_agrees 44 = .ok (.aload_n 1, 1) := kDs0 kf_43 (by decide +kernel)
theorem dX3_agrees_45 : decode cX3_agrees 45 = .ok (.iload 4, 2) := kDs1 kf_21 (by decide +kernel)
theorem dX3_agrees_47 : decode cX3_agrees 47 = .ok (.invokevirtual 35, 3) := kDs2 kf_182 (by decide +kernel)
theorem dX3_agrees_50 : decode cX3_agrees 50 = .ok (.ifCond .ne 5, 3) := kDs4 kf_154 (by decide +kernel)
theorem dX3_agrees_53 : decode cX3_agrees 53 = .ok (.iconst 0, 1) := kDs0 kf_3 (by decide +kernel)
theorem dX3_agrees_54 : decode cX3_agrees 54 = .ok (.ireturn, 1) := kDs0 kf_172 (by decide +kernel)
def w_s_agrees3 : List Cond := .code yX3_agrees cX3_agrees 5 (some .boolean) :: ([.fieldLink RX3 27 "NotEnded$Notebook" "size" "I", .fieldLink RX3 15 "NotEnded$Notebook" "hours" "[I", .fieldLink RX3 9 "NotEnded$Notebook" "persons" "[I", .initialized RX9, .static yX9_isBit, .initialized RX3, .selects RX3 yX3_isSo yX3_isSo, .instanceMethod yX3_isSo, .methodLink RX3 35 yX3_isSo] ++ (wsX30 ++ (w_s_isBit9 ++ (w_s_isSo3))))
theorem gw_s_agrees3 : (w_s_agrees3).all goodWord = true := kGc rfl (kGa (by decide +kernel) (kGa gw_wsX30 (kGa gw_s_isBit9 gw_s_isSo3)))
theorem hd_X3_agrees : yX3_agrees.cls ≠ "java/lang/invoke/MethodHandle" ∧ yX3_agrees.cls ≠ "java/lang/invoke/VarHandle" ∧ (parseMethodDescriptor yX3_agrees.desc).map (fun d => d.parameters.length) = some 3 := by decide +kernel
set_option maxHeartbeats 4000000 in
set_option maxRecDepth 100000 in
theorem s_agrees3 (l : Launch) (dC : Nat → ClassId) (dI : Nat → Nat → Nat) (jC : Nat) (d2 : Nat) (d3 : Nat) (d4 : Nat) (d5 : Nat) (d6 : Nat) (d7 : Nat) (d8 : Nat) (d9 : Nat) (d10 : Nat) (d11 : Nat) (d12 : Nat) (d13 : Nat) (w2 : ClassId) (w3 : ClassId) (w4 : ClassId) (w5 : ClassId) (w6 : ClassId) (w7 : ClassId) (w8 : ClassId) (w9 : ClassId) (w10 : ClassId) (w11 : ClassId) (w12 : ClassId) (w13 : ClassId) (e2 : Nat → Int32) (e3 : Nat → Int32) (e4 : Nat → Int32) (e5 : Nat → Int32) (e6 : Nat → Int32) (e7 : Nat → Int32) (e8 : Nat → Int32) (e9 : Nat → Int32) (e10 : Nat → Int32) (e11 : Nat → Int32) (e12 : Nat → Int32) (e13 : Nat → Int64) (dr : Int64) (pr : Int32) (mo : Int32) (ho : Int32) (hF : Nat) (f0 : Nat) (f1 : Nat) (f2 : Nat) (f3 : Nat) (f4 : Nat) (z0 : ClassId) (z1 : ClassId) (z2 : ClassId) (z3 : ClassId) (z4 : ClassId) (g0 : Nat → Int32) (g1 : Nat → Int32) (g2 : Nat → Int32) (g3 : Nat → Int32) (g4 : Nat → Int32) (sn : Int32) (ks : Nat) (kw : Nat) (hks : ks ≤ 10) (hkw : kw ≤ 4) (jK : Nat) (k0 : Nat) (k1 : Nat) (cK : ClassId) (cO : ClassId) (l0 : Nat → Int32) (l1 : Nat → Int32) (ru : Nat) (sA : Nat) (cl : Nat) (cS : ClassId) (cc : ClassId) (nS : Nat) (nC : Nat) (gS : Nat → Int32) (gC : Nat → Int32) (hnS : nS ≤ 200) (hnC : nC ≤ 200) (A : Nat → Prop) (hN : Nat) (o0 : Nat) (o1 : Nat) (o2 : Nat) (o3 : Nat) (o4 : Nat) (y0 : ClassId) (y1 : ClassId) (y2 : ClassId) (y3 : ClassId) (y4 : ClassId) (q0 : Nat → Int32) (q1 : Nat → Int32) (q2 : Nat → Int32) (q3 : Nat → Int32) (q4 : Nat → Int32) (kn : Nat) (hkn : kn ≤ 20) (p1 : Int32) (p2 : Int32) : Met l yX3_agrees w_s_agrees3 ({ frames := 5, cells := 0, slots := 0, locals := 300 }) (kR dC dI [.ref hN, .ref jC, .int p1, .int p2] [(hN, .inr (3, [.ref o0, .ref o1, .ref o2, .ref o3, .ref o4, .int (nI (kn))])), (o0, .inl (y0, 20, .inl q0)), (o1, .inl (y1, 20, .inl q1)), (o2, .inl (y2, 20, .inl q2)), (o3, .inl (y3, 20, .inl q3)), (o4, .inl (y4, 20, .inl q4)), (jC, .inr (1, [.ref hF, .ref jK, .ref d2, .ref d3, .ref d4, .ref d5, .ref d6, .ref d7, .ref d8, .ref d9, .ref d10, .ref d11, .ref d12, .ref d13, .ref ru, .long dr, .int pr, .int mo, .int ho])), (d2, .inl (w2, 10, .inl e2)), (d3, .inl (w3, 10, .inl e3)), (d4, .inl (w4, 10, .inl e4)), (d5, .inl (w5, 10, .inl e5)), (d6, .inl (w6, 10, .inl e6)), (d7, .inl (w7, 10, .inl e7)), (d8, .inl (w8, 10, .inl e8)), (d9, .inl (w9, 10, .inl e9)), (d10, .inl (w10, 4, .inl e10)), (d11, .inl (w11, 4, .inl e11)), (d12, .inl (w12, 4, .inl e12)), (d13, .inl (w13, 9, .inr (.inl e13))), (hF, .inr (2, [.ref f0, .ref f1, .ref f2, .ref f3, .ref f4, .int sn, .int (nI (ks)), .int (nI (kw))])), (f0, .inl (z0, 10, .inl g0)), (f1, .inl (z1, 10, .inl g1)), (f2, .inl (z2, 10, .inl g2)), (f3, .inl (z3, 10, .inl g3)), (f4, .inl (z4, 4, .inl g4)), (jK, .inr (5, [.ref k0, .ref k1])), (k0, .inl (cK, 8, .inl l0)), (k1, .inl (cO, 32, .inl l1))] [(y0, .int), (y1, .int), (y2, .int), (y3, .int), (y4, .int), (w2, .int), (w3, .int), (w4, .int), (w5, .int), (w6, .int), (w7, .int), (w8, .int), (w9, .int), (w10, .int), (w11, .int), (w12, .int), (w13, .long), (z0, .int), (z1, .int), (z2, .int), (z3, .int), (z4, .int), (cK, .int), (cO, .int), (cS, .int), (cc, .int)] (kNF dC dI [(ru, .inr (6, [.ref sA, .ref cl])), (sA, .inl (cS, nS, .inl gS)), (cl, .inl (cc, nC, .inl gC))] A)) (vp_Si (fun r : Int32 => (r = 0 ∨ r = 1))) 0 0 (fun _ => False) := by
  refine Met.ofW (cc := cX3_agrees) (maxL := 5) (ret := (some .boolean)) (by decide) rfl ?_
  intro p e s m args below meth c s₁ B hml hv
  obtain ⟨rfl, hP, hK, hX⟩ := hv
  have hx := B.exec
  have hb := B.bytes
  have hr := B.returns
  have hts := atoms_spec (ws := w_s_agrees3) B.pre
  have hown : s.vm.findClass RX3 = some m.cls := findClass_of_methodNamed B.named
  have hlocks := B.notSynchronized
  have hS : va_S A s.heap s.heap [] := va_S.rf
  have hP : va_P (dC, dI) vwCl [(hN, .inr (3, [.ref o0, .ref o1, .ref o2, .ref o3, .ref o4, .int (nI (kn))])), (o0, .inl (y0, 20, .inl q0)), (o1, .inl (y1, 20, .inl q1)), (o2, .inl (y2, 20, .inl q2)), (o3, .inl (y3, 20, .inl q3)), (o4, .inl (y4, 20, .inl q4)), (jC, .inr (1, [.ref hF, .ref jK, .ref d2, .ref d3, .ref d4, .ref d5, .ref d6, .ref d7, .ref d8, .ref d9, .ref d10, .ref d11, .ref d12, .ref d13, .ref ru, .long dr, .int pr, .int mo, .int ho])), (d2, .inl (w2, 10, .inl e2)), (d3, .inl (w3, 10, .inl e3)), (d4, .inl (w4, 10, .inl e4)), (d5, .inl (w5, 10, .inl e5)), (d6, .inl (w6, 10, .inl e6)), (d7, .inl (w7, 10, .inl e7)), (d8, .inl (w8, 10, .inl e8)), (d9, .inl (w9, 10, .inl e9)), (d10, .inl (w10, 4, .inl e10)), (d11, .inl (w11, 4, .inl e11)), (d12, .inl (w12, 4, .inl e12)), (d13, .inl (w13, 9, .inr (.inl e13))), (hF, .inr (2, [.ref f0, .ref f1, .ref f2, .ref f3, .ref f4, .int sn, .int (nI (ks)), .int (nI (kw))])), (f0, .inl (z0, 10, .inl g0)), (f1, .inl (z1, 10, .inl g1)), (f2, .inl (z2, 10, .inl g2)), (f3, .inl (z3, 10, .inl g3)), (f4, .inl (z4, 4, .inl g4)), (jK, .inr (5, [.ref k0, .ref k1])), (k0, .inl (cK, 8, .inl l0)), (k1, .inl (cO, 32, .inl l1))] s.heap := hP
  have hl := lv_entry ([.ref hN, .ref jC, .int p1, .int p2]) (n := 5) (Nat.le_of_ble_eq_true rfl)
  rw [lg_entry_eq]
  generalize (lg_sl ([.ref hN, .ref jC, .int p1, .int p2]) ++ List.replicate (5 - (lg_sl ([.ref hN, .ref jC, .int p1, .int p2])).length) Slot.unset).toArray = ls at hl ⊢
  have hl : lv_has ls 5 [(0, .ref hN), (1, .ref jC), (2, .int p1), (3, .int p2)] := hl
  refine kQ (fun Q hQ => ?_)
  refine lv_aload_n hx hb dX3_agrees_0 rfl (lv_at hl 1 rfl) ?_
  refine lv_ifnonnull (tgt := 6) hx hb dX3_agrees_1 kc_t_1_5 ?_
  refine lv_iconst (v := 0) hx hb dX3_agrees_6 kc_i_0 ?_
  refine lv_istore hx hb dX3_agrees_7 hl kc_l_4_5 (kTo [(4, .int 0), (0, .ref hN), (1, .ref jC), (2, .int p1), (3, .int p2)]) (fun ls hl => ?_)
  have lp_k_1 : ∀ (n9 : Nat) (i : Nat) (ivk_1_0 : i ≤ kn) (ls : Array Slot) (_ : lv_has ls 5 [(4, .int (nI (i))), (0, .ref hN), (1, .ref jC), (2, .int p1), (3, .int p2)]) (_ : kn - i < n9), W p l e (headSpec w_s_agrees3 ({ frames := 5, cells := 0, slots := 0, locals := 300 })).room s m (#[.ref hN, .ref jC, .int p1, .int p2] : Array Value) below meth c s.heap [] 0 0 Q (F0 m 9 ls []) := by
    intro n9
    induction n9 with
    | zero => intro i ivk_1_0 ls hl hm9; exact absurd hm9 (Nat.not_lt_zero _)
    | succ n9 ih_k_1 =>
      intro i ivk_1_0 ls hl hm9
      refine lv_iload hx hb dX3_agrees_9 (lv_at hl 0 rfl) ?_
      refine lv_aload_n hx hb dX3_agrees_11 rfl (lv_at hl 1 rfl) ?_
      refine va_get (D := (dC, dI)) (ci := 3) (v := .int (nI (kn))) (C := RX3) (T := TX3) (N := 6) hx hb hts (fun _ h => List.mem_cons_of_mem _ (List.mem_append_right _ (List.mem_append_left _ h))) hown hK hP 0 rfl rfl 5 kc_l_5_6 (hts (.fieldLink RX3 27 "NotEnded$Notebook" "size" "I") (List.mem_cons_of_mem _ (List.mem_append_left _ (List.mem_of_getElem? (i := 0) rfl)))) (fun _ h9 => h9) rfl dX3_agrees_12 ?_
      refine lv_icmp_ge (tgt := 61) hx hb dX3_agrees_15 kc_t_15_46 (fun c_2 => ?_) (fun c_2 => ?_)
      · have bd_4 : kn < 2147483648 := by omega
        have bd_5 : i < 2147483648 := by omega
        have hn_3 := kle (a := kn) (b := i) bd_4 bd_5 c_2
        refine lv_iconst (v := 1) hx hb dX3_agrees_61 kc_i_1 ?_
        rw [hQ]
        exact W.zret (v := 1) hx hb hr rfl (fun t ht hW => ⟨1, rfl, (Or.inr rfl), ht⟩) (fun _ h => nomatch h) dX3_agrees_62
      · have bd_7 : kn < 2147483648 := by omega
        have bd_8 : i < 2147483648 := by omega
        have hn_6 := knle (a := kn) (b := i) bd_7 bd_8 c_2
        refine lv_aload_n hx hb dX3_agrees_18 rfl (lv_at hl 1 rfl) ?_
        refine va_get (D := (dC, dI)) (ci := 3) (v := .ref o1) (C := RX3) (T := TX3) (N := 6) hx hb hts (fun _ h => List.mem_cons_of_mem _ (List.mem_append_right _ (List.mem_append_left _ h))) hown hK hP 0 rfl rfl 1 kc_l_1_6 (hts (.fieldLink RX3 15 "NotEnded$Notebook" "hours" "[I") (List.mem_cons_of_mem _ (List.mem_append_left _ (List.mem_of_getElem? (i := 1) rfl)))) (fun _ h9 => h9) rfl dX3_agrees_19 ?_
        refine lv_iload hx hb dX3_agrees_22 (lv_at hl 0 rfl) ?_
        have bd_9 : i < 20 := by omega
        refine va_iald hx hb hK hP 2 1 rfl rfl (vp_in_nI (n := i) (N := 20) bd_9 kc_31_20) dX3_agrees_24 ?_
        refine lv_topi (fun x_10 ex_10 => ?_)
        refine lv_iload_n hx hb dX3_agrees_25 rfl (lv_at hl 3 rfl) ?_
        refine lv_icmp_ne (tgt := 55) hx hb dX3_agrees_26 kc_t_26_29 (fun c_11 => ?_) (fun c_11 => ?_)
        · refine lv_iinc (v := nI (i + 1)) hx hb dX3_agrees_55 hl (k := 0) rfl (kInc _ 1) kc_l_4_5 (kTo [(4, .int (nI (i + 1))), (0, .ref hN), (1, .ref jC), (2, .int p1), (3, .int p2)]) (fun ls hl => ?_)
          refine lv_goto (tgt := 9) hx hb dX3_agrees_58 kc_t_58_m49 ?_
          exact ih_k_1 (i + 1) (by omega) ls (lv_sub hl [0, 1, 2, 3, 4] rfl) (by omega)
        · refine lv_iload_n hx hb dX3_agrees_29 rfl (lv_at hl 4 rfl) ?_
          refine lv_aload_n hx hb dX3_agrees_30 rfl (lv_at hl 1 rfl) ?_
          refine va_get (D := (dC, dI)) (ci := 3) (v := .ref o0) (C := RX3) (T := TX3) (N := 6) hx hb hts (fun _ h => List.mem_cons_of_mem _ (List.mem_append_right _ (List.mem_append_left _ h))) hown hK hP 0 rfl rfl 0 kc_l_0_6 (hts (.fieldLink RX3 9 "NotEnded$Notebook" "persons" "[I") (List.mem_cons_of_mem _ (List.mem_append_left _ (List.mem_of_getElem? (i := 2) rfl)))) (fun _ h9 => h9) rfl dX3_agrees_31 ?_
          refine lv_iload hx hb dX3_agrees_34 (lv_at hl 0 rfl) ?_
          refine va_iald hx hb hK hP 1 0 rfl rfl (vp_in_nI (n := i) (N := 20) bd_9 kc_31_20) dX3_agrees_36 ?_
          refine lv_topi (fun x_12 ex_12 => ?_)
          have hPc := hP.sb (ws2 := []) [] rfl
          have hKc := hK.sb (tys2 := []) [] rfl
          refine vp_callSi (va_runSN (As := [.int p2, .int x_12]) (rest := []) ⟨hx, hb, hml, hown, hts⟩ (s_isBit9 l dC dI p2 x_12) (⟨va_cnB 2 hts (goodIn_sub (fun _ h => List.mem_cons_of_mem _ (List.mem_append_right _ (List.mem_append_right _ (List.mem_append_left _ h)))) gw_s_isBit9) rfl rfl rfl (hX.2 _ (List.mem_of_getElem? (i := 16) rfl)) (hts (.initialized RX9) (List.mem_cons_of_mem _ (List.mem_append_left _ (List.mem_of_getElem? (i := 3) rfl)))) hd_X9_isBit ⟨(Nat.le_of_ble_eq_true rfl), (Nat.le_of_ble_eq_true rfl)⟩, (hts (.static yX9_isBit) (List.mem_cons_of_mem _ (List.mem_append_left _ (List.mem_of_getElem? (i := 4) rfl)))), trivial⟩) (kR_S kT_blind kT_give hPc hKc) rfl rfl hl.1 rfl (lv_room (Nat.le_of_ble_eq_true rfl)) dX3_agrees_37 ⟨(Nat.le_of_ble_eq_true rfl), (Nat.le_of_ble_eq_true rfl)⟩).run (fun r_13 hw => ?_)
          have hw_14 := hw
          refine lv_if_eq (tgt := 55) hx hb dX3_agrees_40 kc_t_40_15 (fun c_15 => ?_) (fun c_15 => ?_)
          · refine lv_iinc (v := nI (i + 1)) hx hb dX3_agrees_55 hl (k := 0) rfl (kInc _ 1) kc_l_4_5 (kTo [(4, .int (nI (i + 1))), (0, .ref hN), (1, .ref jC), (2, .int p1), (3, .int p2)]) (fun ls hl => ?_)
            refine lv_goto (tgt := 9) hx hb dX3_agrees_58 kc_t_58_m49 ?_
            exact ih_k_1 (i + 1) (by omega) ls (lv_sub hl [0, 1, 2, 3, 4] rfl) (by omega)
          · refine lv_aload_n hx hb dX3_agrees_43 rfl (lv_at hl 1 rfl) ?_
            refine lv_aload_n hx hb dX3_agrees_44 rfl (lv_at hl 2 rfl) ?_
            refine lv_iload hx hb dX3_agrees_45 (lv_at hl 0 rfl) ?_
            have bd_16 : i < kn := by omega
            have hPc := hP.sb (ws2 := [(hN, .inr (3, [.ref o0, .ref o1, .ref o2, .ref o3, .ref o4, .int (nI (kn))])), (o0, .inl (y0, 20, .inl q0)), (o1, .inl (y1, 20, .inl q1)), (o2, .inl (y2, 20, .inl q2)), (o3, .inl (y3, 20, .inl q3)), (o4, .inl (y4, 20, .inl q4)), (jC, .inr (1, [.ref hF, .ref jK, .ref d2, .ref d3, .ref d4, .ref d5, .ref d6, .ref d7, .ref d8, .ref d9, .ref d10, .ref d11, .ref d12, .ref d13, .ref ru, .long dr, .int pr, .int mo, .int ho])), (d2, .inl (w2, 10, .inl e2)), (d3, .inl (w3, 10, .inl e3)), (d4, .inl (w4, 10, .inl e4)), (d5, .inl (w5, 10, .inl e5)), (d6, .inl (w6, 10, .inl e6)), (d7, .inl (w7, 10, .inl e7)), (d8, .inl (w8, 10, .inl e8)), (d9, .inl (w9, 10, .inl e9)), (d10, .inl (w10, 4, .inl e10)), (d11, .inl (w11, 4, .inl e11)), (d12, .inl (w12, 4, .inl e12)), (d13, .inl (w13, 9, .inr (.inl e13))), (hF, .inr (2, [.ref f0, .ref f1, .ref f2, .ref f3, .ref f4, .int sn, .int (nI (ks)), .int (nI (kw))])), (f0, .inl (z0, 10, .inl g0)), (f1, .inl (z1, 10, .inl g1)), (f2, .inl (z2, 10, .inl g2)), (f3, .inl (z3, 10, .inl g3)), (f4, .inl (z4, 4, .inl g4)), (jK, .inr (5, [.ref k0, .ref k1])), (k0, .inl (cK, 8, .inl l0)), (k1, .inl (cO, 32, .inl l1))]) [0, 1, 2, 3, 4, 5, 6, 7, 8, 9, 10, 11, 12, 13, 14, 15, 16, 17, 18, 19, 20, 21, 22, 23, 24, 25, 26, 27] rfl
            have hKc := hK.sb (tys2 := [(y0, .int), (y1, .int), (y2, .int), (y3, .int), (y4, .int), (w2, .int), (w3, .int), (w4, .int), (w5, .int), (w6, .int), (w7, .int), (w8, .int), (w9, .int), (w10, .int), (w11, .int), (w12, .int), (w13, .long), (z0, .int), (z1, .int), (z2, .int), (z3, .int), (z4, .int), (cK, .int), (cO, .int), (cS, .int), (cc, .int)]) [0, 1, 2, 3, 4, 5, 6, 7, 8, 9, 10, 11, 12, 13, 14, 15, 16, 17, 18, 19, 20, 21, 22, 23, 24, 25] rfl
            refine vp_callSi (va_runV (As := [.ref jC, .int (nI (i))]) (rest := []) ⟨hx, hb, hml, hown, hts⟩ (s_isSo3 l dC dI jC d2 d3 d4 d5 d6 d7 d8 d9 d10 d11 d12 d13 w2 w3 w4 w5 w6 w7 w8 w9 w10 w11 w12 w13 e2 e3 e4 e5 e6 e7 e8 e9 e10 e11 e12 e13 dr pr mo ho hF f0 f1 f2 f3 f4 z0 z1 z2 z3 z4 g0 g1 g2 g3 g4 sn ks kw hks hkw jK k0 k1 cK cO l0 l1 ru sA cl cS cc nS nC gS gC hnS hnC A hN o0 o1 o2 o3 o4 y0 y1 y2 y3 y4 q0 q1 q2 q3 q4 kn hkn i bd_16) (cwV 2 hts (kG (List.forall_mem_cons.mpr ⟨(List.mem_cons_of_mem _ (List.mem_append_left _ (List.mem_of_getElem? (i := 8) rfl))), (List.forall_mem_cons.mpr ⟨(List.mem_cons_of_mem _ (List.mem_append_left _ (List.mem_of_getElem? (i := 7) rfl))), (List.forall_mem_cons.mpr ⟨(List.mem_cons_of_mem _ (List.mem_append_left _ (List.mem_of_getElem? (i := 6) rfl))), (List.forall_mem_cons.mpr ⟨(List.mem_cons_of_mem _ (List.mem_append_left _ (List.mem_of_getElem? (i := 5) rfl))), (fun _ h => absurd h List.not_mem_nil)⟩)⟩)⟩)⟩) (kGV _ _ _ _) (fun _ h => List.mem_cons_of_mem _ (List.mem_append_right _ (List.mem_append_right _ (List.mem_append_right _ h)))) gw_s_isSo3) rfl rfl rfl ⟨rfl, hd_X3_isSo⟩ ⟨(Nat.le_of_ble_eq_true rfl), (Nat.le_of_ble_eq_true rfl)⟩) (kR_V kNF_blind (kNF_give hX hS (fun _ h => h)) (va_recv hKc hPc (ci := 3) (q0 := 0) rfl rfl) hPc hKc) rfl rfl hl.1 rfl (lv_room (Nat.le_of_ble_eq_true rfl)) dX3_agrees_47 ⟨(Nat.le_of_ble_eq_true rfl), (Nat.le_of_ble_eq_true rfl)⟩).run (fun r_17 hw => ?_)
            have hw_18 := hw
            refine lv_if_ne (tgt := 55) hx hb dX3_agrees_50 kc_t_50_5 (fun c_19 => ?_) (fun c_19 => ?_)
            · refine lv_iinc (v := nI (i + 1)) hx hb dX3_agrees_55 hl (k := 0) rfl (kInc _ 1) kc_l_4_5 (kTo [(4, .int (nI (i + 1))), (0, .ref hN), (1, .ref jC), (2, .int p1), (3, .int p2)]) (fun ls hl => ?_)
              refine lv_goto (tgt := 9) hx hb dX3_agrees_58 kc_t_58_m49 ?_
              exact ih_k_1 (i + 1) (by omega) ls (lv_sub hl [0, 1, 2, 3, 4] rfl) (by omega)
            · refine lv_iconst (v := 0) hx hb dX3_agrees_53 kc_i_0 ?_
              rw [hQ]
              exact W.zret (v := 0) hx hb hr rfl (fun t ht hW => ⟨0, rfl, (Or.inl rfl), ht⟩) (fun _ h => nomatch h) dX3_agrees_54
  exact lp_k_1 (kn - 0 + 1) 0 (by omega) ls (lv_sub hl [0, 1, 2, 3, 4] rfl) (by omega)

theorem dJ6_compare_7cf53_0 : decode cJ6_compare_7cf53 0 = .ok (.iload_n 0, 1) := kDs0 kf_26 (by decide +kernel)
theorem dJ6_compare_7cf53_1 : decode cJ6_compare_7cf53 1 = .ok (.iload_n 1, 1) := kDs0 kf_27 (by decide +kernel)
theorem dJ6_compare_7cf53_2 : decode cJ6_compare_7cf53 2 = .ok (.if_icmp .ge 7, 3) := kDs4 kf_162 (by decide +kernel)
theorem dJ6_compare_7cf53_9 : decode cJ6_compare_7cf53 9 = .ok (.iload_n 0, 1) := kDs0 kf_26 (by decide +kernel)
theorem dJ6_compare_7cf53_10 : decode cJ6_compare_7cf53 10 = .ok (.iload_n 1, 1) := kDs0 kf_27 (by decide +kernel)
theorem dJ6_compare_7cf53_11 : decode cJ6_compare_7cf53 11 = .ok (.if_icmp .ne 7, 3) := kDs4 kf_160 (by decide +kernel)
theorem dJ6_compare_7cf53_18 : decode cJ6_compare_7cf53 18 = .ok (.iconst 1, 1) := kDs0 kf_4 (by decide +kernel)
theorem dJ6_compare_7cf53_19 : decode cJ6_compare_7cf53 19 = .ok (.ireturn, 1) := kDs0 kf_172 (by decide +kernel)
theorem dJ6_compare_7cf53_14 : decode cJ6_compare_7cf53 14 = .ok (.iconst 0, 1) := kDs0 kf_3 (by decide +kernel)
theorem dJ6_compare_7cf53_15 : decode cJ6_compare_7cf53 15 = .ok (.goto 4, 3) := kDs4 kf_167 (by decide +kernel)
theorem dJ6_compare_7cf53_5 : decode cJ6_compare_7cf53 5 = .ok (.iconst (-1), 1) := kDs0 kf_2 (by decide +kernel)
theorem dJ6_compare_7cf53_6 : decode cJ6_compare_7cf53 6 = .ok (.goto 13, 3) := kDs4 kf_167 (by decide +kernel)
def w_s_compare6 : List Cond := .code yJ6_compare_7cf53 cJ6_compare_7cf53 2 (some .int) :: ([])
theorem gw_s_compare6 : (w_s_compare6).all goodWord = true := kGc rfl kGn
theorem hd_J6_compare_7cf53 : yJ6_compare_7cf53.cls ≠ "java/lang/invoke/MethodHandle" ∧ yJ6_compare_7cf53.cls ≠ "java/lang/invoke/VarHandle" ∧ (parseMethodDescriptor yJ6_compare_7cf53.desc).map (fun d => d.parameters.length) = some 2 := by decide +kernel
set_option maxHeartbeats 4000000 in
set_option maxRecDepth 100000 in
theorem s_compare6 (l : Launch) (dC : Nat → ClassId) (dI : Nat → Nat → Nat) (p0 : Int32) (p1 : Int32) : Met l yJ6_compare_7cf53 w_s_compare6 ({ frames := 1, cells := 0, slots := 0, locals := 60 }) (kR dC dI [.int p0, .int p1] [] [] kT) (vp_Si (fun r : Int32 => True)) 0 0 (fun _ => False) := by
  refine Met.ofW (cc := cJ6_compare_7cf53) (maxL := 2) (ret := (some .int)) (by decide) rfl ?_
  intro p e s m args below meth c s₁ B hml hv
  obtain ⟨rfl, hP, hK, hX⟩ := hv
  have hx := B.exec
  have hb := B.bytes
  have hr := B.returns
  have hts := atoms_spec (ws := w_s_compare6) B.pre
  have hown : s.vm.findClass RJ6 = some m.cls := findClass_of_methodNamed B.named
  have hlocks := B.notSynchronized
  have hP : va_P (dC, dI) vwCl [] s.heap := hP
  have hl := lv_entry ([.int p0, .int p1]) (n := 2) (Nat.le_of_ble_eq_true rfl)
  rw [lg_entry_eq]
  generalize (lg_sl ([.int p0, .int p1]) ++ List.replicate (2 - (lg_sl ([.int p0, .int p1])).length) Slot.unset).toArray = ls at hl ⊢
  have hl : lv_has ls 2 [(0, .int p0), (1, .int p1)] := hl
  refine kQ (fun Q hQ => ?_)
  refine lv_iload_n hx hb dJ6_compare_7cf53_0 rfl (lv_at hl 0 rfl) ?_
  refine lv_iload_n hx hb dJ6_compare_7cf53_1 rfl (lv_at hl 1 rfl) ?_
  refine lv_icmp_ge (tgt := 9) hx hb dJ6_compare_7cf53_2 kc_t_2_7 (fun c_1 => ?_) (fun c_1 => ?_)
  · refine lv_iload_n hx hb dJ6_compare_7cf53_9 rfl (lv_at hl 0 rfl) ?_
    refine lv_iload_n hx hb dJ6_compare_7cf53_10 rfl (lv_at hl 1 rfl) ?_
    refine lv_icmp_ne (tgt := 18) hx hb dJ6_compare_7cf53_11 kc_t_11_7 (fun c_2 => ?_) (fun c_2 => ?_)
    · refine lv_iconst (v := 1) hx hb dJ6_compare_7cf53_18 kc_i_1 ?_
      rw [hQ]
      exact W.iret (v := 1) hx hb hr (fun t ht hW => ⟨1, rfl, trivial, ht⟩) (fun _ h => nomatch h) dJ6_compare_7cf53_19
    · refine lv_iconst (v := 0) hx hb dJ6_compare_7cf53_14 kc_i_0 ?_
      refine lv_goto (tgt := 19) hx hb dJ6_compare_7cf53_15 kc_t_15_4 ?_
      rw [hQ]
      exact W.iret (v := 0) hx hb hr (fun t ht hW => ⟨0, rfl, trivial, ht⟩) (fun _ h => nomatch h) dJ6_compare_7cf53_19
  · refine lv_iconst (v := (-1)) hx hb dJ6_compare_7cf53_5 kc_i_m1 ?_
    refine lv_goto (tgt := 19) hx hb dJ6_compare_7cf53_6 kc_t_6_13 ?_
    rw [hQ]
    exact W.iret (v := (-1)) hx hb hr (fun t ht hW => ⟨(-1), rfl, trivial, ht⟩) (fun _ h => nomatch h) dJ6_compare_7cf53_19

theorem dJ6_bitCount_0f7a4_0 : decode cJ6_bitCount_0f7a4 0 = .ok (.iload_n 0, 1) := kDs0 kf_26 (by decide +kernel)
theorem dJ6_bitCount_0f7a4_1 : decode cJ6_bitCount_0f7a4 1 = .ok (.iload_n 0, 1) := kDs0 kf_26 (by decide +kernel)
theorem dJ6_bitCount_0f7a4_2 : decode cJ6_bitCount_0f7a4 2 = .ok (.iconst 1, 1) := kDs0 kf_4 (by decide +kernel)
theorem dJ6_bitCount_0f7a4_3 : decode cJ6_bitCount_0f7a4 3 = .ok (.iushr, 1) := kDs0 kf_124 (by decide +kernel)
theorem dJ6_bitCount_0f7a4_4 : decode cJ6_bitCount_0f7a4 4 = .ok (.ldc_w 265, 3) := kDs2 kf_19 (by decide +kernel)
theorem dJ6_bitCount_0f7a4_7 : decode cJ6_bitCount_0f7a4 7 = .ok (.iand, 1) := kDs0 kf_126 (by decide +kernel)
theorem dJ6_bitCount_0f7a4_8 : decode cJ6_bitCount_0f7a4 8 = .ok (.isub, 1) := kDs0 kf_100 (by decide +kernel)
theorem dJ6_bitCount_0f7a4_9 : decode cJ6_bitCount_0f7a4 9 = .ok (.istore_n 0, 1) := kDs0 kf_59 (by decide +kernel)
theorem dJ6_bitCount_0f7a4_10 : decode cJ6_bitCount_0f7a4 10 = .ok (.iload_n 0, 1) := kDs0 kf_26 (by decide +kernel)
theorem dJ6_bitCount_0f7a4_11 : decode cJ6_bitCount_0f7a4 11 = .ok (.ldc_w 266, 3) := kDs2 kf_19 (by decide +kernel)
theorem dJ6_bitCount_0f7a4_14 : decode cJ6_bitCount_0f7a4 14 = .ok (.iand, 1) := kDs0 kf_126 (by decide +kernel)
theorem dJ6_bitCount_0f7a4_15 : decode cJ6_bitCount_0f7a4 15 = .ok (.iload_n 0, 1) := kDs0 kf_26 (by decide +kernel)
theorem dJ6_bitCount_0f7a4_16 : decode cJ6_bitCount_0f7a4 16 = .ok (.iconst 2, 1) := kDs0 kf_5 (by decide +kernel)
theorem dJ6_bitCount_0f7a4_17 : decode cJ6_bitCount_0f7a4 17 = .ok (.iushr, 1) := kDs0 kf_124 (by decide +kernel)
theorem dJ6_bitCount_0f7a4_18 : decode cJ6_bitCount_0f7a4 18 = .ok (.ldc_w 266, 3) := kDs2 kf_19 (by decide +kernel)
theorem dJ6_bitCount_0f7a4_21 : decode cJ6_bitCount_0f7a4 21 = .ok (.iand, 1) := kDs0 kf_126 (by decide +kernel)
theorem dJ6_bitCount_0f7a4_22 : decode cJ6_bitCount_0f7a4 22 = .ok (.iadd, 1) := kDs0 kf_96 (by decide +kernel)
theorem dJ6_bitCount_0f7a4_23 : decode cJ6_bitCount_0f7a4 23 = .ok (.istore_n 0, 1) := kDs0 kf_59 (by decide +kernel)
theorem dJ6_bitCount_0f7a4_24 : decode cJ6_bitCount_0f7a4 24 = .ok (.iload_n 0, 1) := kDs0 kf_26 (by decide +kernel)
theorem dJ6_bitCount_0f7a4_25 : decode cJ6_bitCount_0f7a4 25 = .ok (.iload_n 0, 1) := kDs0 kf_26 (by decide +kernel)
theorem dJ6_bitCount_0f7a4_26 : decode cJ6_bitCount_0f7a4 26 = .ok (.iconst 4, 1) := kDs0 kf_7 (by decide +kernel)
theorem dJ6_bitCount_0f7a4_27 : decode cJ6_bitCount_0f7a4 27 = .ok (.iushr, 1) := kDs0 kf_124 (by decide +kernel)
theorem dJ6_bitCount_0f7a4_28 : decode cJ6_bitCount_0f7a4 28 = .ok (.iadd, 1) := kDs0 kf_96 (by decide +kernel)
theorem dJ6_bitCount_0f7a4_29 : decode cJ6_bitCount_0f7a4 29 = .ok (.ldc_w 267, 3) := kDs2 kf_19 (by decide +kernel)
theorem dJ6_bitCount_0f7a4_32 : decode cJ6_bitCount_0f7a4 32 = .ok (.iand, 1) := kDs0 kf_126 (by decide +kernel)
theorem dJ6_bitCount_0f7a4_33 : decode cJ6_bitCount_0f7a4 33 = .ok (.istore_n 0, 1) := kDs0 kf_59 (by decide +kernel)
theorem dJ6_bitCount_0f7a4_34 : decode cJ6_bitCount_0f7a4 34 = .ok (.iload_n 0, 1) := kDs0 kf_26 (by decide +kernel)
theorem dJ6_bitCount_0f7a4_35 : decode cJ6_bitCount_0f7a4 35 = .ok (.iload_n 0, 1) := kDs0 kf_26 (by decide +kernel)
theorem dJ6_bitCount_0f7a4_36 : decode cJ6_bitCount_0f7a4 36 = .ok (.bipush 8, 2) := kDs3 kf_16 (by decide +kernel)
theorem dJ6_bitCount_0f7a4_38 : decode cJ6_bitCount_0f7a4 38 = .ok (.iushr, 1) := kDs0 kf_124 (by decide +kernel)
theorem dJ6_bitCount_0f7a4_39 : decode cJ6_bitCount_0f7a4 39 = .ok (.iadd, 1) := kDs0 kf_96 (by decide +kernel)
theorem dJ6_bitCount_0f7a4_40 : decode cJ6_bitCount_0f7a4 40 = .ok (.istore_n 0, 1) := kDs0 kf_59 (by decide +kernel)
theorem dJ6_bitCount_0f7a4_41 : decode cJ6_bitCount_0f7a4 41 = .ok (.iload_n 0, 1) := kDs0 kf_26 (by decide +kernel)
theorem dJ6_bitCount_0f7a4_42 : decode cJ6_bitCount_0f7a4 42 = .ok (.iload_n 0, 1) := kDs0 kf_26 (by decide +kernel)
theorem dJ6_bitCount_0f7a4_43 : decode cJ6_bitCount_0f7a4 43 = .ok (.bipush 16, 2) := kDs3 kf_16 (by decide +kernel)
theorem dJ6_bitCount_0f7a4_45 : decode cJ6_bitCount_0f7a4 45 = .ok (.iushr, 1) := kDs0 kf_124 (by decide +kernel)
theorem dJ6_bitCount_0f7a4_46 : decode cJ6_bitCount_0f7a4 46 = .ok (.iadd, 1) := kDs0 kf_96 (by decide +kernel)
theorem dJ6_bitCount_0f7a4_47 : decode cJ6_bitCount_0f7a4 47 = .ok (.istore_n 0, 1) := kDs0 kf_59 (by decide +kernel)
theorem dJ6_bitCount_0f7a4_48 : decode cJ6_bitCount_0f7a4 48 = .ok (.iload_n 0, 1) := kDs0 kf_26 (by decide +kernel)
theorem dJ6_bitCount_0f7a4_49 : decode cJ6_bitCount_0f7a4 49 = .ok (.bipush 63, 2) := kDs3 kf_16 (by decide +kernel)
theorem dJ6_bitCount_0f7a4_51 : decode cJ6_bitCount_0f7a4 51 = .ok (.iand, 1) := kDs0 kf_126 (by decide +kernel)
theorem dJ6_bitCount_0f7a4_52 : decode cJ6_bitCount_0f7a4 52 = .ok (.ireturn, 1) := kDs0 kf_172 (by decide +kernel)
def w_s_bitCount6 : List Cond := .code yJ6_bitCount_0f7a4 cJ6_bitCount_0f7a4 1 (some .int) :: ([.constant RJ6 265 (1431655765), .constant RJ6 266 (858993459), .constant RJ6 267 (252645135)] ++ [])
theorem gw_s_bitCount6 : (w_s_bitCount6).all goodWord = true := kGc rfl (kGa (by decide +kernel) kGn)
theorem hd_J6_bitCount_0f7a4 : yJ6_bitCount_0f7a4.cls ≠ "java/lang/invoke/MethodHandle" ∧ yJ6_bitCount_0f7a4.cls ≠ "java/lang/invoke/VarHandle" ∧ (parseMethodDescriptor yJ6_bitCount_0f7a4.desc).map (fun d => d.parameters.length) = some 1 := by decide +kernel
set_option maxHeartbeats 4000000 in
set_option maxRecDepth 100000 in
theorem s_bitCount6 (l : Launch) (dC : Nat → ClassId) (dI : Nat → Nat → Nat) (p0 : Int32) : Met l yJ6_bitCount_0f7a4 w_s_bitCount6 ({ frames := 1, cells := 0, slots := 0, locals := 60 }) (kR dC dI [.int p0] [] [] kT) (vp_Si (fun r : Int32 => True)) 0 0 (fun _ => False) := by
  refine Met.ofW (cc := cJ6_bitCount_0f7a4) (maxL := 1) (ret := (some .int)) (by decide) rfl ?_
  intro p e s m args below meth c s₁ B hml hv
  obtain ⟨rfl, hP, hK, hX⟩ := hv
  have hx := B.exec
  have hb := B.bytes
  have hr := B.returns
  have hts := atoms_spec (ws := w_s_bitCount6) B.pre
  have hown : s.vm.findClass RJ6 = some m.cls := findClass_of_methodNamed B.named
  have hlocks := B.notSynchronized
  have hP : va_P (dC, dI) vwCl [] s.heap := hP
  have hl := lv_entry ([.int p0]) (n := 1) (Nat.le_of_ble_eq_true rfl)
  rw [lg_entry_eq]
  generalize (lg_sl ([.int p0]) ++ List.replicate (1 - (lg_sl ([.int p0])).length) Slot.unset).toArray = ls at hl ⊢
  have hl : lv_has ls 1 [(0, .int p0)] := hl
  refine kQ (fun Q hQ => ?_)
  refine lv_iload_n hx hb dJ6_bitCount_0f7a4_0 rfl (lv_at hl 0 rfl) ?_
  refine lv_iload_n hx hb dJ6_bitCount_0f7a4_1 rfl (lv_at hl 0 rfl) ?_
  refine lv_iconst (v := 1) hx hb dJ6_bitCount_0f7a4_2 kc_i_1 ?_
  obtain ⟨x_1, ex_1⟩ : ∃ z : Int32, z = (Int32.toUInt32 p0 >>> (Int32.toUInt32 1 &&& Int32.toUInt32 31)).toInt32 := ⟨_, rfl⟩
  refine lv_iushr (v := x_1) hx hb dJ6_bitCount_0f7a4_3 ex_1.symm ?_
  refine lv_ldcw (v := 1431655765) hx hb hown (hts (.constant RJ6 265 (1431655765)) (List.mem_cons_of_mem _ (List.mem_append_left _ (List.mem_of_getElem? (i := 0) rfl)))) dJ6_bitCount_0f7a4_4 ?_
  refine lv_iand hx hb dJ6_bitCount_0f7a4_7 ?_
  refine lv_topi (fun x_2 ex_2 => ?_)
  refine lv_isub hx hb dJ6_bitCount_0f7a4_8 ?_
  refine lv_topi (fun x_3 ex_3 => ?_)
  refine lv_istore_n hx hb dJ6_bitCount_0f7a4_9 rfl hl kc_l_0_1 (kTo [(0, .int x_3)]) (fun ls hl => ?_)
  refine lv_iload_n hx hb dJ6_bitCount_0f7a4_10 rfl (lv_at hl 0 rfl) ?_
  refine lv_ldcw (v := 858993459) hx hb hown (hts (.constant RJ6 266 (858993459)) (List.mem_cons_of_mem _ (List.mem_append_left _ (List.mem_of_getElem? (i := 1) rfl)))) dJ6_bitCount_0f7a4_11 ?_
  refine lv_iand hx hb dJ6_bitCount_0f7a4_14 ?_
  refine lv_topi (fun x_4 ex_4 => ?_)
  refine lv_iload_n hx hb dJ6_bitCount_0f7a4_15 rfl (lv_at hl 0 rfl) ?_
  refine lv_iconst (v := 2) hx hb dJ6_bitCount_0f7a4_16 kc_i_2 ?_
  obtain ⟨x_5, ex_5⟩ : ∃ z : Int32, z = (Int32.toUInt32 x_3 >>> (Int32.toUInt32 2 &&& Int32.toUInt32 31)).toInt32 := ⟨_, rfl⟩
  refine lv_iushr (v := x_5) hx hb dJ6_bitCount_0f7a4_17 ex_5.symm ?_
  refine lv_ldcw (v := 858993459) hx hb hown (hts (.constant RJ6 266 (858993459)) (List.mem_cons_of_mem _ (List.mem_append_left _ (List.mem_of_getElem? (i := 1) rfl)))) dJ6_bitCount_0f7a4_18 ?_
  refine lv_iand hx hb dJ6_bitCount_0f7a4_21 ?_
  refine lv_topi (fun x_6 ex_6 => ?_)
  refine lv_iadd hx hb dJ6_bitCount_0f7a4_22 ?_
  refine lv_topi (fun x_7 ex_7 => ?_)
  refine lv_istore_n hx hb dJ6_bitCount_0f7a4_23 rfl hl kc_l_0_1 (kTo [(0, .int x_7)]) (fun ls hl => ?_)
  refine lv_iload_n hx hb dJ6_bitCount_0f7a4_24 rfl (lv_at hl 0 rfl) ?_
  refine lv_iload_n hx hb dJ6_bitCount_0f7a4_25 rfl (lv_at hl 0 rfl) ?_
  refine lv_iconst (v := 4) hx hb dJ6_bitCount_0f7a4_26 kc_i_4 ?_
  obtain ⟨x_8, ex_8⟩ : ∃ z : Int32, z = (Int32.toUInt32 x_7 >>> (Int32.toUInt32 4 &&& Int32.toUInt32 31)).toInt32 := ⟨_, rfl⟩
  refine lv_iushr (v := x_8) hx hb dJ6_bitCount_0f7a4_27 ex_8.symm ?_
  refine lv_iadd hx hb dJ6_bitCount_0f7a4_28 ?_
  refine lv_topi (fun x_9 ex_9 => ?_)
  refine lv_ldcw (v := 252645135) hx hb hown (hts (.constant RJ6 267 (252645135)) (List.mem_cons_of_mem _ (List.mem_append_left _ (List.mem_of_getElem? (i := 2) rfl)))) dJ6_bitCount_0f7a4_29 ?_
  refine lv_iand hx hb dJ6_bitCount_0f7a4_32 ?_
  refine lv_topi (fun x_10 ex_10 => ?_)
  refine lv_istore_n hx hb dJ6_bitCount_0f7a4_33 rfl hl kc_l_0_1 (kTo [(0, .int x_10)]) (fun ls hl => ?_)
  refine lv_iload_n hx hb dJ6_bitCount_0f7a4_34 rfl (lv_at hl 0 rfl) ?_
  refine lv_iload_n hx hb dJ6_bitCount_0f7a4_35 rfl (lv_at hl 0 rfl) ?_
  refine lv_bipush (v := 8) hx hb dJ6_bitCount_0f7a4_36 kc_b_8 ?_
  obtain ⟨x_11, ex_11⟩ : ∃ z : Int32, z = (Int32.toUInt32 x_10 >>> (Int32.toUInt32 8 &&& Int32.toUInt32 31)).toInt32 := ⟨_, rfl⟩
  refine lv_iushr (v := x_11) hx hb dJ6_bitCount_0f7a4_38 ex_11.symm ?_
  refine lv_iadd hx hb dJ6_bitCount_0f7a4_39 ?_
  refine lv_topi (fun x_12 ex_12 => ?_)
  refine lv_istore_n hx hb dJ6_bitCount_0f7a4_40 rfl hl kc_l_0_1 (kTo [(0, .int x_12)]) (fun ls hl => ?_)
  refine lv_iload_n hx hb dJ6_bitCount_0f7a4_41 rfl (lv_at hl 0 rfl) ?_
  refine lv_iload_n hx hb dJ6_bitCount_0f7a4_42 rfl (lv_at hl 0 rfl) ?_
  refine lv_bipush (v := 16) hx hb dJ6_bitCount_0f7a4_43 kc_b_16 ?_
  obtain ⟨x_13, ex_13⟩ : ∃ z : Int32, z = (Int32.toUInt32 x_12 >>> (Int32.toUInt32 16 &&& Int32.toUInt32 31)).toInt32 := ⟨_, rfl⟩
  refine lv_iushr (v := x_13) hx hb dJ6_bitCount_0f7a4_45 ex_13.symm ?_
  refine lv_iadd hx hb dJ6_bitCount_0f7a4_46 ?_
  refine lv_topi (fun x_14 ex_14 => ?_)
  refine lv_istore_n hx hb dJ6_bitCount_0f7a4_47 rfl hl kc_l_0_1 (kTo [(0, .int x_14)]) (fun ls hl => ?_)
  refine lv_iload_n hx hb dJ6_bitCount_0f7a4_48 rfl (lv_at hl 0 rfl) ?_
  refine lv_bipush (v := 63) hx hb dJ6_bitCount_0f7a4_49 kc_b_63 ?_
  refine lv_iand hx hb dJ6_bitCount_0f7a4_51 ?_
  refine lv_topi (fun x_15 ex_15 => ?_)
  rw [hQ]
  exact W.iret (v := x_15) hx hb hr (fun t ht hW => ⟨x_15, rfl, trivial, ht⟩) (fun _ h => nomatch h) dJ6_bitCount_0f7a4_52

theorem dX0_isLess_0 : decode cX0_isLess 0 = .ok (.aload_n 0, 1) := kDs0 kf_42 (by decide +kernel)
theorem dX0_isLess_1 : decode cX0_isLess 1 = .ok (.iload_n 1, 1) := kDs0 kf_27 (by decide +kernel)
theorem dX0_isLess_2 : decode cX0_isLess 2 = .ok (.invokevirtual 32, 3) := kDs2 kf_182 (by decide +kernel)
theorem dX0_isLess_5 : decode cX0_isLess 5 = .ok (.aload_n 0, 1) := kDs0 kf_42 (by decide +kernel)
theorem dX0_isLess_6 : decode cX0_isLess 6 = .ok (.iload_n 2, 1) := kDs0 kf_28 (by decide +kernel)
theorem dX0_isLess_7 : decode cX0_isLess 7 = .ok (.invokevirtual 32, 3) := kDs2 kf_182 (by decide +kernel)
theorem dX0_isLess_10 : decode cX0_isLess 10 = .ok (.invokestatic 36, 3) := kDs2 kf_184 (by decide +kernel)
theorem dX0_isLess_13 : decode cX0_isLess 13 = .ok (.istore_n 3, 1) := kDs0 kf_62 (by decide +kernel)
theorem dX0_isLess_14 : decode cX0_isLess 14 = .ok (.iload_n 1, 1) := kDs0 kf_27 (by decide +kernel)
theorem dX0_isLess_15 : decode cX0_isLess 15 = .ok (.invokestatic 42, 3) := kDs2 kf_184 (by decide +kernel)
theorem dX0_isLess_18 : decode cX0_isLess 18 = .ok (.iload_n 2, 1) := kDs0 kf_28 (by decide +kernel)
theorem dX0_isLess_19 : decode cX0_isLess 19 = .ok (.invokestatic 42, 3) := kDs2 kf_184 (by decide +kernel)
theorem dX0_isLess_22 : decode cX0_isLess 22 = .ok (.invokestatic 36, 3) := kDs2 kf_184 (by decide +kernel)
theorem dX0_isLess_25 : decode cX0_isLess 25 = .ok (.istore 4, 2) := kDs1 kf_54 (by decide +kernel)
theorem dX0_isLess_27 : decode cX0_isLess 27 = .ok (.iload_n 3, 1) := kDs0 kf_29 (by decide +kernel)
theorem dX0_isLess_28 : decode cX0_isLess 28 = .ok (.ifCond .eq 13, 3) := kDs4 kf_153 (by decide +kernel)
theorem dX0_isLess_41 : decode cX0_isLess 41 = .ok (.iload 4, 2) := kDs1 kf_21 (by decide +kernel)
theorem dX0_isLess_43 : decode cX0_isLess 43 = .ok (.ifCond .eq 16, 3) := kDs4 kf_153 (by decide +kernel)
theorem dX0_isLess_59 : decode cX0_isLess 59 = .ok (.iload_n 1, 1) := kDs0 kf_27 (by decide +kernel)
theorem dX0_isLess_60 : decode cX0_isLess 60 = .ok (.iload_n 2, 1) := kDs0 kf_28 (by decide +kernel)
theorem dX0_isLess_61 : decode cX0_isLess 61 = .ok (.invokestatic 45, 3) := kDs2 kf_184 (by decide +kernel)
theorem dX0_isLess_64 : decode cX0_isLess 64 = .ok (.ireturn, 1) := kDs0 kf_172 (by decide +kernel)
theorem dX0_isLess_46 : decode cX0_isLess 46 = .ok (.iload 4, 2) := kDs1 kf_21 (by decide +kernel)
theorem dX0_isLess_48 : decode cX0_isLess 48 = .ok (.ifCond .ge 7, 3) := kDs4 kf_156 (by decide +kernel)
theorem dX0_isLess_55 : decode cX0_isLess 55 = .ok (.iconst 0, 1) := kDs0 kf_3 (by decide +kernel)
theorem dX0_isLess_56 : decode cX0_isLess 56 = .ok (.goto 8, 3) := kDs4 kf_167 (by decide +kernel)
theorem dX0_isLess_51 : decode cX0_isLess 51 = .ok (.iconst 1, 1) := kDs0 kf_4 (by decide +kernel)
theorem dX0_isLess_52 : decode cX0_isLess 52 = .ok (.goto 12, 3) := kDs4 kf_167 (by decide +kernel)
theorem dX0_isLess_31 : decode cX0_isLess 31 = .ok (.iload_n 3, 1) := kDs0 kf_29 (by decide +kernel)
theorem dX0_isLess_32 : decode cX0_isLess 32 = .ok (.ifCond .ge 7, 3) := kDs4 kf_156 (by decide +kernel)
theorem dX0_isLess_39 : decode cX0_isLess 39 = .ok (.iconst 0, 1) := kDs0 kf_3 (by decide +kernel)
theorem dX0_isLess_40 : decode cX0_isLess 40 = .ok (.ireturn, 1) := kDs0 kf_172 (by decide +kernel)
theorem dX0_isLess_35 : decode cX0_isLess 35 = .ok (.iconst 1, 1) := kDs0 kf_4 (by decide +kernel)
theorem dX0_isLess_36 : decode cX0_isLess 36 = .ok (.goto 4, 3) := kDs4 kf_167 (by decide +kernel)
def w_s_isLess0 : List Cond := .code yX0_isLess cX0_isLess 5 (some .boolean) :: ([.initialized RX0, .selects RX0 yX0_costOf yX0_costOf, .instanceMethod yX0_costOf, .methodLink RX0 32 yX0_costOf, .initialized RJ6, .static yJ6_compare_7cf53, .methodLink RX0 36 yJ6_compare_7cf53, .static yJ6_bitCount_0f7a4, .methodLink RX0 42 yJ6_bitCount_0f7a4, .initialized RX9, .static yX9_isLowerFirst] ++ (w_s_costOf0 ++ (w_s_compare6 ++ (w_s_bitCount6 ++ (w_s_lower9)))))
theorem gw_s_isLess0 : (w_s_isLess0).all goodWord = true := kGc rfl (kGa (by decide +kernel) (kGa gw_s_costOf0 (kGa gw_s_compare6 (kGa gw_s_bitCount6 gw_s_lower9))))
theorem hd_X0_isLess : yX0_isLess.cls ≠ "java/lang/invoke/MethodHandle" ∧ yX0_isLess.cls ≠ "java/lang/invoke/VarHandle" ∧ (parseMethodDescriptor yX0_isLess.desc).map (fun d => d.parameters.length) = some 2 := by decide +kernel
set_option maxHeartbeats 4000000 in
set_option maxRecDepth 100000 in
theorem s_isLess0 (l : Launch) (dC : Nat → ClassId) (dI : Nat → Nat → Nat) (jA : Nat) (i0 : Nat) (i1 : Nat) (i2 : Nat) (i3 : Nat) (x0 : ClassId) (x1 : ClassId) (x2 : ClassId) (x3 : ClassId) (t0 : Nat → Int32) (t1 : Nat → Int32) (t2 : Nat → Int32) (t3 : Nat → Int32) (ka : Nat) (hka : ka ≤ 6) (p0 : Int32) (p1 : Int32) : Met l yX0_isLess w_s_isLess0 ({ frames := 3, cells := 0, slots := 0, locals := 180 }) (kR dC dI [.ref jA, .int p0, .int p1] [(jA, .inr (0, [.ref i0, .ref i1, .ref i2, .ref i3, .int (nI (ka))])), (i0, .inl (x0, 6, .inl t0)), (i1, .inl (x1, 6, .inl t1)), (i2, .inl (x2, 6, .inl t2)), (i3, .inl (x3, 6, .inl t3))] [(x0, .int), (x1, .int), (x2, .int), (x3, .int)] kNL) (vp_Si (fun r : Int32 => (r = 0 ∨ r = 1))) 0 0 (fun _ => False) := by
  refine Met.ofW (cc := cX0_isLess) (maxL := 5) (ret := (some .boolean)) (by decide) rfl ?_
  intro p e s m args below meth c s₁ B hml hv
  obtain ⟨rfl, hP, hK, hX⟩ := hv
  have hx := B.exec
  have hb := B.bytes
  have hr := B.returns
  have hts := atoms_spec (ws := w_s_isLess0) B.pre
  have hown : s.vm.findClass RX0 = some m.cls := findClass_of_methodNamed B.named
  have hlocks := B.notSynchronized
  have hP : va_P (dC, dI) vwCl [(jA, .inr (0, [.ref i0, .ref i1, .ref i2, .ref i3, .int (nI (ka))])), (i0, .inl (x0, 6, .inl t0)), (i1, .inl (x1, 6, .inl t1)), (i2, .inl (x2, 6, .inl t2)), (i3, .inl (x3, 6, .inl t3))] s.heap := hP
  have hl := lv_entry ([.ref jA, .int p0, .int p1]) (n := 5) (Nat.le_of_ble_eq_true rfl)
  rw [lg_entry_eq]
  generalize (lg_sl ([.ref jA, .int p0, .int p1]) ++ List.replicate (5 - (lg_sl ([.ref jA, .int p0, .int p1])).length) Slot.unset).toArray = ls at hl ⊢
  have hl : lv_has ls 5 [(0, .ref jA), (1, .int p0), (2, .int p1)] := hl
  refine kQ (fun Q hQ => ?_)
  refine lv_aload_n hx hb dX0_isLess_0 rfl (lv_at hl 0 rfl) ?_
  refine lv_iload_n hx hb dX0_isLess_1 rfl (lv_at hl 1 rfl) ?_
  have hPc := hP.sb (ws2 := [(jA, .inr (0, [.ref i0, .ref i1, .ref i2, .ref i3, .int (nI (ka))])), (i0, .inl (x0, 6, .inl t0)), (i1, .inl (x1, 6, .inl t1)), (i2, .inl (x2, 6, .inl t2)), (i3, .inl (x3, 6, .inl t3))]) [0, 1, 2, 3, 4] rfl
  have hKc := hK.sb (tys2 := [(x0, .int), (x1, .int), (x2, .int), (x3, .int)]) [0, 1, 2, 3] rfl
  refine vp_callSi (va_runV (As := [.int p0]) (rest := []) ⟨hx, hb, hml, hown, hts⟩ (s_costOf0 l dC dI jA i0 i1 i2 i3 x0 x1 x2 x3 t0 t1 t2 t3 ka hka p0) (cwV 1 hts (kG (List.forall_mem_cons.mpr ⟨(List.mem_cons_of_mem _ (List.mem_append_left _ (List.mem_of_getElem? (i := 3) rfl))), (List.forall_mem_cons.mpr ⟨(List.mem_cons_of_mem _ (List.mem_append_left _ (List.mem_of_getElem? (i := 2) rfl))), (List.forall_mem_cons.mpr ⟨(List.mem_cons_of_mem _ (List.mem_append_left _ (List.mem_of_getElem? (i := 1) rfl))), (List.forall_mem_cons.mpr ⟨(List.mem_cons_of_mem _ (List.mem_append_left _ (List.mem_of_getElem? (i := 0) rfl))), (fun _ h => absurd h List.not_mem_nil)⟩)⟩)⟩)⟩) (kGV _ _ _ _) (fun _ h => List.mem_cons_of_mem _ (List.mem_append_right _ (List.mem_append_left _ h))) gw_s_costOf0) rfl rfl rfl ⟨rfl, hd_X0_costOf⟩ ⟨(Nat.le_of_ble_eq_true rfl), (Nat.le_of_ble_eq_true rfl)⟩) (kR_V kNL_blind (kNL_give hX) (va_recv hKc hPc (ci := 0) (q0 := 0) rfl rfl) hPc hKc) rfl rfl hl.1 rfl (lv_room (Nat.le_of_ble_eq_true rfl)) dX0_isLess_2 ⟨(Nat.le_of_ble_eq_true rfl), (Nat.le_of_ble_eq_true rfl)⟩).run (fun r_1 hw => ?_)
  refine lv_aload_n hx hb dX0_isLess_5 rfl (lv_at hl 0 rfl) ?_
  refine lv_iload_n hx hb dX0_isLess_6 rfl (lv_at hl 2 rfl) ?_
  have hPc := hP.sb (ws2 := [(jA, .inr (0, [.ref i0, .ref i1, .ref i2, .ref i3, .int (nI (ka))])), (i0, .inl (x0, 6, .inl t0)), (i1, .inl (x1, 6, .inl t1)), (i2, .inl (x2, 6, .inl t2)), (i3, .inl (x3, 6, .inl t3))]) [0, 1, 2, 3, 4] rfl
  have hKc := hK.sb (tys2 := [(x0, .int), (x1, .int), (x2, .int), (x3, .int)]) [0, 1, 2, 3] rfl
  refine vp_callSi (va_runV (As := [.int p1]) (rest := [.int r_1]) ⟨hx, hb, hml, hown, hts⟩ (s_costOf0 l dC dI jA i0 i1 i2 i3 x0 x1 x2 x3 t0 t1 t2 t3 ka hka p1) (cwV 1 hts (kG (List.forall_mem_cons.mpr ⟨(List.mem_cons_of_mem _ (List.mem_append_left _ (List.mem_of_getElem? (i := 3) rfl))), (List.forall_mem_cons.mpr ⟨(List.mem_cons_of_mem _ (List.mem_append_left _ (List.mem_of_getElem? (i := 2) rfl))), (List.forall_mem_cons.mpr ⟨(List.mem_cons_of_mem _ (List.mem_append_left _ (List.mem_of_getElem? (i := 1) rfl))), (List.forall_mem_cons.mpr ⟨(List.mem_cons_of_mem _ (List.mem_append_left _ (List.mem_of_getElem? (i := 0) rfl))), (fun _ h => absurd h List.not_mem_nil)⟩)⟩)⟩)⟩) (kGV _ _ _ _) (fun _ h => List.mem_cons_of_mem _ (List.mem_append_right _ (List.mem_append_left _ h))) gw_s_costOf0) rfl rfl rfl ⟨rfl, hd_X0_costOf⟩ ⟨(Nat.le_of_ble_eq_true rfl), (Nat.le_of_ble_eq_true rfl)⟩) (kR_V kNL_blind (kNL_give hX) (va_recv hKc hPc (ci := 0) (q0 := 0) rfl rfl) hPc hKc) rfl rfl hl.1 rfl (lv_room (Nat.le_of_ble_eq_true rfl)) dX0_isLess_7 ⟨(Nat.le_of_ble_eq_true rfl), (Nat.le_of_ble_eq_true rfl)⟩).run (fun r_2 hw => ?_)
  have hPc := hP.sb (ws2 := []) [] rfl
  have hKc := hK.sb (tys2 := []) [] rfl
  refine vp_callSi (va_runS (As := [.int r_1, .int r_2]) (rest := []) ⟨hx, hb, hml, hown, hts⟩ (s_compare6 l dC dI r_1 r_2) (va_cwS 2 hts (kG (List.forall_mem_cons.mpr ⟨(List.mem_cons_of_mem _ (List.mem_append_left _ (List.mem_of_getElem? (i := 6) rfl))), (List.forall_mem_cons.mpr ⟨(List.mem_cons_of_mem _ (List.mem_append_left _ (List.mem_of_getElem? (i := 5) rfl))), (List.forall_mem_cons.mpr ⟨(List.mem_cons_of_mem _ (List.mem_append_left _ (List.mem_of_getElem? (i := 4) rfl))), (fun _ h => absurd h List.not_mem_nil)⟩)⟩)⟩) (kGS _ _ _) (fun _ h => List.mem_cons_of_mem _ (List.mem_append_right _ (List.mem_append_right _ (List.mem_append_left _ h)))) gw_s_compare6) rfl rfl rfl hd_J6_compare_7cf53 ⟨(Nat.le_of_ble_eq_true rfl), (Nat.le_of_ble_eq_true rfl)⟩) (kR_S kT_blind kT_give hPc hKc) rfl rfl hl.1 rfl (lv_room (Nat.le_of_ble_eq_true rfl)) dX0_isLess_10 ⟨(Nat.le_of_ble_eq_true rfl), (Nat.le_of_ble_eq_true rfl)⟩).run (fun r_3 hw => ?_)
  refine lv_istore_n hx hb dX0_isLess_13 rfl hl kc_l_3_5 (kTo [(3, .int r_3), (0, .ref jA), (1, .int p0), (2, .int p1)]) (fun ls hl => ?_)
  refine lv_iload_n hx hb dX0_isLess_14 rfl (lv_at hl 2 rfl) ?_
  have hPc := hP.sb (ws2 := []) [] rfl
  have hKc := hK.sb (tys2 := []) [] rfl
  refine vp_callSi (va_runS (As := [.int p0]) (rest := []) ⟨hx, hb, hml, hown, hts⟩ (s_bitCount6 l dC dI p0) (va_cwS 1 hts (kG (List.forall_mem_cons.mpr ⟨(List.mem_cons_of_mem _ (List.mem_append_left _ (List.mem_of_getElem? (i := 8) rfl))), (List.forall_mem_cons.mpr ⟨(List.mem_cons_of_mem _ (List.mem_append_left _ (List.mem_of_getElem? (i := 7) rfl))), (List.forall_mem_cons.mpr ⟨(List.mem_cons_of_mem _ (List.mem_append_left _ (List.mem_of_getElem? (i := 4) rfl))), (fun _ h => absurd h List.not_mem_nil)⟩)⟩)⟩) (kGS _ _ _) (fun _ h => List.mem_cons_of_mem _ (List.mem_append_right _ (List.mem_append_right _ (List.mem_append_right _ (List.mem_append_left _ h))))) gw_s_bitCount6) rfl rfl rfl hd_J6_bitCount_0f7a4 ⟨(Nat.le_of_ble_eq_true rfl), (Nat.le_of_ble_eq_true rfl)⟩) (kR_S kT_blind kT_give hPc hKc) rfl rfl hl.1 rfl (lv_room (Nat.le_of_ble_eq_true rfl)) dX0_isLess_15 ⟨(Nat.le_of_ble_eq_true rfl), (Nat.le_of_ble_eq_true rfl)⟩).run (fun r_4 hw => ?_)
  refine lv_iload_n hx hb dX0_isLess_18 rfl (lv_at hl 3 rfl) ?_
  have hPc := hP.sb (ws2 := []) [] rfl
  have hKc := hK.sb (tys2 := []) [] rfl
  refine vp_callSi (va_runS (As := [.int p1]) (rest := [.int r_4]) ⟨hx, hb, hml, hown, hts⟩ (s_bitCount6 l dC dI p1) (va_cwS 1 hts (kG (List.forall_mem_cons.mpr ⟨(List.mem_cons_of_mem _ (List.mem_append_left _ (List.mem_of_getElem? (i := 8) rfl))), (List.forall_mem_cons.mpr ⟨(List.mem_cons_of_mem _ (List.mem_append_left _ (List.mem_of_getElem? (i := 7) rfl))), (List.forall_mem_cons.mpr ⟨(List.mem_cons_of_mem _ (List.mem_append_left _ (List.mem_of_getElem? (i := 4) rfl))), (fun _ h => absurd h List.not_mem_nil)⟩)⟩)⟩) (kGS _ _ _) (fun _ h => List.mem_cons_of_mem _ (List.mem_append_right _ (List.mem_append_right _ (List.mem_append_right _ (List.mem_append_left _ h))))) gw_s_bitCount6) rfl rfl rfl hd_J6_bitCount_0f7a4 ⟨(Nat.le_of_ble_eq_true rfl), (Nat.le_of_ble_eq_true rfl)⟩) (kR_S kT_blind kT_give hPc hKc) rfl rfl hl.1 rfl (lv_room (Nat.le_of_ble_eq_true rfl)) dX0_isLess_19 ⟨(Nat.le_of_ble_eq_true rfl), (Nat.le_of_ble_eq_true rfl)⟩).run (fun r_5 hw => ?_)
  have hPc := hP.sb (ws2 := []) [] rfl
  have hKc := hK.sb (tys2 := []) [] rfl
  refine vp_callSi (va_runS (As := [.int r_4, .int r_5]) (rest := []) ⟨hx, hb, hml, hown, hts⟩ (s_compare6 l dC dI r_4 r_5) (va_cwS 2 hts (kG (List.forall_mem_cons.mpr ⟨(List.mem_cons_of_mem _ (List.mem_append_left _ (List.mem_of_getElem? (i := 6) rfl))), (List.forall_mem_cons.mpr ⟨(List.mem_cons_of_mem _ (List.mem_append_left _ (List.mem_of_getElem? (i := 5) rfl))), (List.forall_mem_cons.mpr ⟨(List.mem_cons_of_mem _ (List.mem_append_left _ (List.mem_of_getElem? (i := 4) rfl))), (fun _ h => absurd h List.not_mem_nil)⟩)⟩)⟩) (kGS _ _ _) (fun _ h => List.mem_cons_of_mem _ (List.mem_append_right _ (List.mem_append_right _ (List.mem_append_left _ h)))) gw_s_compare6) rfl rfl rfl hd_J6_compare_7cf53 ⟨(Nat.le_of_ble_eq_true rfl), (Nat.le_of_ble_eq_true rfl)⟩) (kR_S kT_blind kT_give hPc hKc) rfl rfl hl.1 rfl (lv_room (Nat.le_of_ble_eq_true rfl)) dX0_isLess_22 ⟨(Nat.le_of_ble_eq_true rfl), (Nat.le_of_ble_eq_true rfl)⟩).run (fun r_6 hw => ?_)
  refine lv_istore hx hb dX0_isLess_25 hl kc_l_4_5 (kTo [(4, .int r_6), (3, .int r_3), (0, .ref jA), (1, .int p0), (2, .int p1)]) (fun ls hl => ?_)
  refine lv_iload_n hx hb dX0_isLess_27 rfl (lv_at hl 1 rfl) ?_
  refine lv_if_eq (tgt := 41) hx hb dX0_isLess_28 kc_t_28_13 (fun c_7 => ?_) (fun c_7 => ?_)
  · refine lv_iload hx hb dX0_isLess_41 (lv_at hl 0 rfl) ?_
    refine lv_if_eq (tgt := 59) hx hb dX0_isLess_43 kc_t_43_16 (fun c_8 => ?_) (fun c_8 => ?_)
    · refine lv_iload_n hx hb dX0_isLess_59 rfl (lv_at hl 3 rfl) ?_
      refine lv_iload_n hx hb dX0_isLess_60 rfl (lv_at hl 4 rfl) ?_
      have hPc := hP.sb (ws2 := []) [] rfl
      have hKc := hK.sb (tys2 := []) [] rfl
      refine vp_callSi (va_runSN (As := [.int p0, .int p1]) (rest := []) ⟨hx, hb, hml, hown, hts⟩ (s_lower9 l dC dI p0 p1) (⟨va_cnB 2 hts (goodIn_sub (fun _ h => List.mem_cons_of_mem _ (List.mem_append_right _ (List.mem_append_right _ (List.mem_append_right _ (List.mem_append_right _ h))))) gw_s_lower9) rfl rfl rfl (hX _ (List.mem_of_getElem? (i := 18) rfl)) (hts (.initialized RX9) (List.mem_cons_of_mem _ (List.mem_append_left _ (List.mem_of_getElem? (i := 9) rfl)))) hd_X9_isLowerFirst ⟨(Nat.le_of_ble_eq_true rfl), (Nat.le_of_ble_eq_true rfl)⟩, (hts (.static yX9_isLowerFirst) (List.mem_cons_of_mem _ (List.mem_append_left _ (List.mem_of_getElem? (i := 10) rfl)))), trivial⟩) (kR_S kT_blind kT_give hPc hKc) rfl rfl hl.1 rfl (lv_room (Nat.le_of_ble_eq_true rfl)) dX0_isLess_61 ⟨(Nat.le_of_ble_eq_true rfl), (Nat.le_of_ble_eq_true rfl)⟩).run (fun r_9 hw => ?_)
      have hw_10 := hw
      rw [hQ]
      exact W.zret (v := r_9) hx hb hr (kB01 hw_10) (fun t ht hW => ⟨r_9, rfl, hw_10, ht⟩) (fun _ h => nomatch h) dX0_isLess_64
    · refine lv_iload hx hb dX0_isLess_46 (lv_at hl 0 rfl) ?_
      refine lv_if_ge (tgt := 55) hx hb dX0_isLess_48 kc_t_48_7 (fun c_11 => ?_) (fun c_11 => ?_)
      · refine lv_iconst (v := 0) hx hb dX0_isLess_55 kc_i_0 ?_
        refine lv_goto (tgt := 64) hx hb dX0_isLess_56 kc_t_56_8 ?_
        rw [hQ]
        exact W.zret (v := 0) hx hb hr rfl (fun t ht hW => ⟨0, rfl, (Or.inl rfl), ht⟩) (fun _ h => nomatch h) dX0_isLess_64
      · refine lv_iconst (v := 1) hx hb dX0_isLess_51 kc_i_1 ?_
        refine lv_goto (tgt := 64) hx hb dX0_isLess_52 kc_t_52_12 ?_
        rw [hQ]
        exact W.zret (v := 1) hx hb hr rfl (fun t ht hW => ⟨1, rfl, (Or.inr rfl), ht⟩) (fun _ h => nomatch h) dX0_isLess_64
  · refine lv_iload_n hx hb dX0_isLess_31 rfl (lv_at hl 1 rfl) ?_
    refine lv_if_ge (tgt := 39) hx hb dX0_isLess_32 kc_t_32_7 (fun c_12 => ?_) (fun c_12 => ?_)
    · refine lv_iconst (v := 0) hx hb dX0_isLess_39 kc_i_0 ?_
      rw [hQ]
      exact W.zret (v := 0) hx hb hr rfl (fun t ht hW => ⟨0, rfl, (Or.inl rfl), ht⟩) (fun _ h => nomatch h) dX0_isLess_40
    · refine lv_iconst (v := 1) hx hb dX0_isLess_35 kc_i_1 ?_
      refine lv_goto (tgt := 40) hx hb dX0_isLess_36 kc_t_36_4 ?_
      rw [hQ]
      exact W.zret (v := 1) hx hb hr rfl (fun t ht hW => ⟨1, rfl, (Or.inr rfl), ht⟩) (fun _ h => nomatch h) dX0_isLess_40
