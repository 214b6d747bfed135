def w_s_sent2n : List Cond := .code yX2_sentOnes cX2_sentOnes 1 (some .int) :: ([.fieldLink RX2 27 "NotEnded$Folk" "sent" "I"] ++ (wsX20))
theorem gw_s_sent2n : (w_s_sent2n).all goodWord = true := kGc rfl (kGa (by decide +kernel) gw_wsX20)
set_option maxHeartbeats 4000000 in
set_option maxRecDepth 100000 in
theorem s_sent2n (l : Launch) (dC : Nat → ClassId) (dI : Nat → Nat → Nat) (hF : Nat) (f0 : Nat) (f1 : Nat) (f2 : Nat) (f3 : Nat) (f4 : Nat) (z0 : ClassId) (z1 : ClassId) (z2 : ClassId) (z3 : ClassId) (z4 : ClassId) (g0 : Nat → Int32) (g1 : Nat → Int32) (g2 : Nat → Int32) (g3 : Nat → Int32) (g4 : Nat → Int32) (ks : Nat) (kw : Nat) (hks : ks ≤ 10) (hkw : kw ≤ 4) (sv : Nat) (hsv : sv < 1024) : Met l yX2_sentOnes w_s_sent2n ({ frames := 1, cells := 0, slots := 0, locals := 60 }) (kR dC dI [.ref hF] [(hF, .inr (2, [.ref f0, .ref f1, .ref f2, .ref f3, .ref f4, .int (nI (sv)), .int (nI (ks)), .int (nI (kw))])), (f0, .inl (z0, 10, .inl g0)), (f1, .inl (z1, 10, .inl g1)), (f2, .inl (z2, 10, .inl g2)), (f3, .inl (z3, 10, .inl g3)), (f4, .inl (z4, 4, .inl g4))] [(z0, .int), (z1, .int), (z2, .int), (z3, .int), (z4, .int)] kT) (vp_Si (fun r : Int32 => r = nI sv)) 0 0 (fun _ => False) := by
  refine Met.ofW (cc := cX2_sentOnes) (maxL := 1) (ret := (some .int)) (by decide) rfl ?_
  intro p e s m args below meth c s₁ B hml hv
  obtain ⟨rfl, hP, hK, hX⟩ := hv
  have hx := B.exec
  have hb := B.bytes
  have hr := B.returns
  have hts := atoms_spec (ws := w_s_sent2n) B.pre
  have hown : s.vm.findClass RX2 = some m.cls := findClass_of_methodNamed B.named
  have hlocks := B.notSynchronized
  have hP : va_P (dC, dI) vwCl [(hF, .inr (2, [.ref f0, .ref f1, .ref f2, .ref f3, .ref f4, .int (nI (sv)), .int (nI (ks)), .int (nI (kw))])), (f0, .inl (z0, 10, .inl g0)), (f1, .inl (z1, 10, .inl g1)), (f2, .inl (z2, 10, .inl g2)), (f3, .inl (z3, 10, .inl g3)), (f4, .inl (z4, 4, .inl g4))] s.heap := hP
  have hl := lv_entry ([.ref hF]) (n := 1) (Nat.le_of_ble_eq_true rfl)
  rw [lg_entry_eq]
  generalize (lg_sl ([.ref hF]) ++ List.replicate (1 - (lg_sl ([.ref hF])).length) Slot.unset).toArray = ls at hl ⊢
  have hl : lv_has ls 1 [(0, .ref hF)] := hl
  refine kQ (fun Q hQ => ?_)
  refine lv_aload_n hx hb dX2_sentOnes_0 rfl (lv_at hl 0 rfl) ?_
  refine va_get (D := (dC, dI)) (ci := 2) (v := .int (nI (sv))) (C := RX2) (T := TX2) (N := 8) hx hb hts (fun _ h => List.mem_cons_of_mem _ (List.mem_append_right _ h)) hown hK hP 0 rfl rfl 5 kc_l_5_8 (hts (.fieldLink RX2 27 "NotEnded$Folk" "sent" "I") (List.mem_cons_of_mem _ (List.mem_append_left _ (List.mem_of_getElem? (i := 0) rfl)))) (fun _ h9 => h9) rfl dX2_sentOnes_1 ?_
  rw [hQ]
  exact W.iret (v := nI (sv)) hx hb hr (fun t ht hW => ⟨nI (sv), rfl, rfl, ht⟩) (fun _ h => nomatch h) dX2_sentOnes_4

def w_s_actsFor0n : List Cond := .code yX0_actsFor cX0_actsFor 4 (some .int) :: ([.fieldLink RX0 24 "NotEnded$Acts" "size" "I", .fieldLink RX0 9 "NotEnded$Acts" "persons" "[I"] ++ (wsX00))
theorem gw_s_actsFor0n : (w_s_actsFor0n).all goodWord = true := kGc rfl (kGa (by decide +kernel) gw_wsX00)
set_option maxHeartbeats 4000000 in
set_option maxRecDepth 100000 in
theorem s_actsFor0n (l : Launch) (dC : Nat → ClassId) (dI : Nat → Nat → Nat) (jA : Nat) (i0 : Nat) (i1 : Nat) (i2 : Nat) (i3 : Nat) (x0 : ClassId) (x1 : ClassId) (x2 : ClassId) (x3 : ClassId) (t0 : Nat → Int32) (t1 : Nat → Int32) (t2 : Nat → Int32) (t3 : Nat → Int32) (ka : Nat) (hka : ka ≤ 6) (p0 : Int32) : Met l yX0_actsFor w_s_actsFor0n ({ frames := 1, cells := 0, slots := 0, locals := 60 }) (kR dC dI [.ref jA, .int p0] [(jA, .inr (0, [.ref i0, .ref i1, .ref i2, .ref i3, .int (nI (ka))])), (i0, .inl (x0, 6, .inl t0)), (i1, .inl (x1, 6, .inl t1)), (i2, .inl (x2, 6, .inl t2)), (i3, .inl (x3, 6, .inl t3))] [(x0, .int), (x1, .int), (x2, .int), (x3, .int)] kT) (vp_Si (fun r : Int32 => (∃ v : Nat, v < 64 ∧ r = nI v))) 0 0 (fun _ => False) := by
  refine Met.ofW (cc := cX0_actsFor) (maxL := 4) (ret := (some .int)) (by decide) rfl ?_
  intro p e s m args below meth c s₁ B hml hv
  obtain ⟨rfl, hP, hK, hX⟩ := hv
  have hx := B.exec
  have hb := B.bytes
  have hr := B.returns
  have hts := atoms_spec (ws := w_s_actsFor0n) B.pre
  have hown : s.vm.findClass RX0 = some m.cls := findClass_of_methodNamed B.named
  have hlocks := B.notSynchronized
  have hP : va_P (dC, dI) vwCl [(jA, .inr (0, [.ref i0, .ref i1, .ref i2, .ref i3, .int (nI (ka))])), (i0, .inl (x0, 6, .inl t0)), (i1, .inl (x1, 6, .inl t1)), (i2, .inl (x2, 6, .inl t2)), (i3, .inl (x3, 6, .inl t3))] s.heap := hP
  have hl := lv_entry ([.ref jA, .int p0]) (n := 4) (Nat.le_of_ble_eq_true rfl)
  rw [lg_entry_eq]
  generalize (lg_sl ([.ref jA, .int p0]) ++ List.replicate (4 - (lg_sl ([.ref jA, .int p0])).length) Slot.unset).toArray = ls at hl ⊢
  have hl : lv_has ls 4 [(0, .ref jA), (1, .int p0)] := hl
  refine kQ (fun Q hQ => ?_)
  refine lv_iconst (v := 0) hx hb dX0_actsFor_0 kc_i_0 ?_
  refine lv_istore_n hx hb dX0_actsFor_1 rfl hl kc_l_2_4 (kTo [(2, .int 0), (0, .ref jA), (1, .int p0)]) (fun ls hl => ?_)
  refine lv_iconst (v := 0) hx hb dX0_actsFor_2 kc_i_0 ?_
  refine lv_istore_n hx hb dX0_actsFor_3 rfl hl kc_l_3_4 (kTo [(3, .int 0), (2, .int 0), (0, .ref jA), (1, .int p0)]) (fun ls hl => ?_)
  have lp_k_1 : ∀ (n9 : Nat) (i : Nat) (x9 : Nat) (ivk_1_0 : i ≤ ka) (ivk_1_1 : x9 < 64) (ls : Array Slot) (_ : lv_has ls 4 [(3, .int (nI (i))), (2, .int (nI (x9))), (0, .ref jA), (1, .int p0)]) (_ : ka - i < n9), W p l e (headSpec w_s_actsFor0n ({ frames := 1, cells := 0, slots := 0, locals := 60 })).room s m (#[.ref jA, .int p0] : Array Value) below meth c s.heap [] 0 0 Q (F0 m 4 ls []) := by
    intro n9
    induction n9 with
    | zero => intro i x9 ivk_1_0 ivk_1_1 ls hl hm9; exact absurd hm9 (Nat.not_lt_zero _)
    | succ n9 ih_k_1 =>
      intro i x9 ivk_1_0 ivk_1_1 ls hl hm9
      refine lv_iload_n hx hb dX0_actsFor_4 rfl (lv_at hl 0 rfl) ?_
      refine lv_aload_n hx hb dX0_actsFor_5 rfl (lv_at hl 2 rfl) ?_
      refine va_get (D := (dC, dI)) (ci := 0) (v := .int (nI (ka))) (C := RX0) (T := TX0) (N := 5) hx hb hts (fun _ h => List.mem_cons_of_mem _ (List.mem_append_right _ h)) hown hK hP 0 rfl rfl 4 kc_l_4_5 (hts (.fieldLink RX0 24 "NotEnded$Acts" "size" "I") (List.mem_cons_of_mem _ (List.mem_append_left _ (List.mem_of_getElem? (i := 0) rfl)))) (fun _ h9 => h9) rfl dX0_actsFor_6 ?_
      refine lv_icmp_ge (tgt := 34) hx hb dX0_actsFor_9 kc_t_9_25 (fun c_2 => ?_) (fun c_2 => ?_)
      · have bd_4 : ka < 2147483648 := by omega
        have bd_5 : i < 2147483648 := by omega
        have hn_3 := kle (a := ka) (b := i) bd_4 bd_5 c_2
        refine lv_iload_n hx hb dX0_actsFor_34 rfl (lv_at hl 1 rfl) ?_
        rw [hQ]
        exact W.iret (v := nI (x9)) hx hb hr (fun t ht hW => ⟨nI (x9), rfl, ⟨_, by omega, rfl⟩, ht⟩) (fun _ h => nomatch h) dX0_actsFor_35
      · have bd_7 : ka < 2147483648 := by omega
        have bd_8 : i < 2147483648 := by omega
        have hn_6 := knle (a := ka) (b := i) bd_7 bd_8 c_2
        refine lv_aload_n hx hb dX0_actsFor_12 rfl (lv_at hl 2 rfl) ?_
        refine va_get (D := (dC, dI)) (ci := 0) (v := .ref i0) (C := RX0) (T := TX0) (N := 5) hx hb hts (fun _ h => List.mem_cons_of_mem _ (List.mem_append_right _ h)) hown hK hP 0 rfl rfl 0 kc_l_0_5 (hts (.fieldLink RX0 9 "NotEnded$Acts" "persons" "[I") (List.mem_cons_of_mem _ (List.mem_append_left _ (List.mem_of_getElem? (i := 1) rfl)))) (fun _ h9 => h9) rfl dX0_actsFor_13 ?_
        refine lv_iload_n hx hb dX0_actsFor_16 rfl (lv_at hl 0 rfl) ?_
        have bd_9 : i < 6 := by omega
        refine va_iald hx hb hK hP 1 0 rfl rfl (vp_in_nI (n := i) (N := 6) bd_9 kc_31_6) dX0_actsFor_17 ?_
        refine lv_topi (fun x_10 ex_10 => ?_)
        refine lv_iload_n hx hb dX0_actsFor_18 rfl (lv_at hl 3 rfl) ?_
        refine lv_icmp_ne (tgt := 28) hx hb dX0_actsFor_19 kc_t_19_9 (fun c_11 => ?_) (fun c_11 => ?_)
        · refine lv_iinc (v := nI (i + 1)) hx hb dX0_actsFor_28 hl (k := 0) rfl (kInc _ 1) kc_l_3_4 (kTo [(3, .int (nI (i + 1))), (2, .int (nI (x9))), (0, .ref jA), (1, .int p0)]) (fun ls hl => ?_)
          refine lv_goto (tgt := 4) hx hb dX0_actsFor_31 kc_t_31_m27 ?_
          exact ih_k_1 (i + 1) x9 (by omega) (by first | omega | exact kOr6 (by omega) (by omega)) ls (lv_sub hl [0, 1, 2, 3] rfl) (by omega)
        · refine lv_iload_n hx hb dX0_actsFor_22 rfl (lv_at hl 1 rfl) ?_
          refine lv_iconst (v := 1) hx hb dX0_actsFor_23 kc_i_1 ?_
          refine lv_iload_n hx hb dX0_actsFor_24 rfl (lv_at hl 0 rfl) ?_
          refine lv_ishl hx hb dX0_actsFor_25 ?_
          refine lv_topi (fun y_12 ey_12 => ?_)
          obtain rfl : y_12 = nI (2 ^ (i)) := ey_12.trans (kShl (n := i) (by omega))
          refine lv_ior hx hb dX0_actsFor_26 ?_
          refine lv_topi (fun y_13 ey_13 => ?_)
          obtain rfl : y_13 = nI ((x9) ||| (2 ^ (i))) := ey_13.trans (nI_or _ _)
          refine lv_istore_n hx hb dX0_actsFor_27 rfl hl kc_l_2_4 (kTo [(2, .int (nI ((x9) ||| (2 ^ (i))))), (3, .int (nI (i))), (0, .ref jA), (1, .int p0)]) (fun ls hl => ?_)
          refine lv_iinc (v := nI (i + 1)) hx hb dX0_actsFor_28 hl (k := 1) rfl (kInc _ 1) kc_l_3_4 (kTo [(3, .int (nI (i + 1))), (2, .int (nI ((x9) ||| (2 ^ (i))))), (0, .ref jA), (1, .int p0)]) (fun ls hl => ?_)
          refine lv_goto (tgt := 4) hx hb dX0_actsFor_31 kc_t_31_m27 ?_
          exact ih_k_1 (i + 1) ((x9) ||| (2 ^ (i))) (by omega) (by first | omega | exact kOr6 (by omega) (by omega)) ls (lv_sub hl [0, 1, 2, 3] rfl) (by omega)
  exact lp_k_1 (ka - 0 + 1) 0 0 (by omega) (by first | omega | exact kOr6 (by omega) (by omega)) ls (lv_sub hl [0, 1, 2, 3] rfl) (by omega)

theorem dJ7_copyOf_59c91_0 : decode cJ7_copyOf_59c91 0 = .ok (.iload_n 1, 1) := kDs0 kf_27 (by decide +kernel)
theorem dJ7_copyOf_59c91_1 : decode cJ7_copyOf_59c91 1 = .ok (.aload_n 0, 1) := kDs0 kf_42 (by decide +kernel)
theorem dJ7_copyOf_59c91_2 : decode cJ7_copyOf_59c91 2 = .ok (.arraylength, 1) := kDs0 kf_190 (by decide +kernel)
theorem dJ7_copyOf_59c91_3 : decode cJ7_copyOf_59c91 3 = .ok (.if_icmp .ne 11, 3) := kDs4 kf_160 (by decide +kernel)
theorem dJ7_copyOf_59c91_14 : decode cJ7_copyOf_59c91 14 = .ok (.iload_n 1, 1) := kDs0 kf_27 (by decide +kernel)
theorem dJ7_copyOf_59c91_15 : decode cJ7_copyOf_59c91 15 = .ok (.newarray .int, 2) := by decide +kernel
theorem dJ7_copyOf_59c91_17 : decode cJ7_copyOf_59c91 17 = .ok (.astore_n 2, 1) := kDs0 kf_77 (by decide +kernel)
theorem dJ7_copyOf_59c91_18 : decode cJ7_copyOf_59c91 18 = .ok (.aload_n 0, 1) := kDs0 kf_42 (by decide +kernel)
theorem dJ7_copyOf_59c91_19 : decode cJ7_copyOf_59c91 19 = .ok (.iconst 0, 1) := kDs0 kf_3 (by decide +kernel)
theorem dJ7_copyOf_59c91_20 : decode cJ7_copyOf_59c91 20 = .ok (.aload_n 2, 1) := kDs0 kf_44 (by decide +kernel)
theorem dJ7_copyOf_59c91_21 : decode cJ7_copyOf_59c91 21 = .ok (.iconst 0, 1) := kDs0 kf_3 (by decide +kernel)
theorem dJ7_copyOf_59c91_22 : decode cJ7_copyOf_59c91 22 = .ok (.aload_n 0, 1) := kDs0 kf_42 (by decide +kernel)
theorem dJ7_copyOf_59c91_23 : decode cJ7_copyOf_59c91 23 = .ok (.arraylength, 1) := kDs0 kf_190 (by decide +kernel)
theorem dJ7_copyOf_59c91_24 : decode cJ7_copyOf_59c91 24 = .ok (.iload_n 1, 1) := kDs0 kf_27 (by decide +kernel)
theorem dJ7_copyOf_59c91_25 : decode cJ7_copyOf_59c91 25 = .ok (.invokestatic 304, 3) := kDs2 kf_184 (by decide +kernel)
theorem dJ7_copyOf_59c91_28 : decode cJ7_copyOf_59c91 28 = .ok (.invokestatic 150, 3) := kDs2 kf_184 (by decide +kernel)
theorem dJ7_copyOf_59c91_31 : decode cJ7_copyOf_59c91 31 = .ok (.aload_n 2, 1) := kDs0 kf_44 (by decide +kernel)
theorem dJ7_copyOf_59c91_32 : decode cJ7_copyOf_59c91 32 = .ok (.areturn, 1) := kDs0 kf_176 (by decide +kernel)
theorem dJ7_copyOf_59c91_6 : decode cJ7_copyOf_59c91 6 = .ok (.aload_n 0, 1) := kDs0 kf_42 (by decide +kernel)
theorem dJ7_copyOf_59c91_7 : decode cJ7_copyOf_59c91 7 = .ok (.invokevirtual 316, 3) := kDs2 kf_182 (by decide +kernel)
theorem dJ7_copyOf_59c91_10 : decode cJ7_copyOf_59c91 10 = .ok (.checkcast 317, 3) := kDs2 kf_192 (by decide +kernel)
theorem dJ7_copyOf_59c91_13 : decode cJ7_copyOf_59c91 13 = .ok (.areturn, 1) := kDs0 kf_176 (by decide +kernel)
def w_s_copyOf : List Cond := .code yJ7_copyOf_59c91 cJ7_copyOf_59c91 3 (some (.array .int)) :: ([.arrayClass .int, .methodLink RJ7 304 Lib.Math.min.name, .static Lib.Math.min.name, .initialized RJ9, .code Lib.Math.min.name Lib.Math.min.code 2 (some .int), .methodLink RJ7 150 arraycopyName, .native arraycopyName, .static arraycopyName, .initialized RJ10, .methodLink RJ7 316 ⟨"[I", "clone", "()Ljava/lang/Object;"⟩, .sameMethod "[I" "java/lang/Object" "clone" "()Ljava/lang/Object;", .native ⟨"java/lang/Object", "clone", "()Ljava/lang/Object;"⟩, .instanceMethod ⟨"java/lang/Object", "clone", "()Ljava/lang/Object;"⟩, .selects "[I" ⟨"[I", "clone", "()Ljava/lang/Object;"⟩ ⟨"java/lang/Object", "clone", "()Ljava/lang/Object;"⟩, .classLink RJ7 317 "[I"] ++ [])
theorem gw_s_copyOf : (w_s_copyOf).all goodWord = true := kGc rfl (kGa (by decide +kernel) kGn)
theorem hd_J7_copyOf_59c91 : yJ7_copyOf_59c91.cls ≠ "java/lang/invoke/MethodHandle" ∧ yJ7_copyOf_59c91.cls ≠ "java/lang/invoke/VarHandle" ∧ (parseMethodDescriptor yJ7_copyOf_59c91.desc).map (fun d => d.parameters.length) = some 2 := by decide +kernel
set_option maxHeartbeats 4000000 in
set_option maxRecDepth 100000 in
theorem s_copyOf (l : Launch) (dC : Nat → ClassId) (dI : Nat → Nat → Nat) (ar : Nat) (cI : ClassId) (n : Nat) (g : Nat → Int32) (hn : n ≤ 200) (pn : Nat) (hpn : pn ≤ n) (sz : Nat) : Met l yJ7_copyOf_59c91 w_s_copyOf ({ frames := 2, cells := 1, slots := 200, locals := 120 }) (kW dC dI [.ref ar, .int (nI (pn))] [(ar, .inl (cI, n, .inl g))] [(cI, .int)] kCl sz) (va_Qr (fun (u : ClassId × Nat × (Nat → Int32)) => match u with | (cN, nN, gN) => (nN = pn ∧ ∀ j : Nat, j < pn → gN j = g j)) (fun (u : ClassId × Nat × (Nat → Int32)) (ra : Nat) (t : State) => match u with | (cN, nN, gN) => kB dC dI [(ar, .inl (cI, n, .inl g)), (ra, .inl (cN, nN, .inl gN))] [(cI, .int), (cN, .int)] (va_A [(ar, .inl (cI, n, .inl g))] sz) t) (va_A [(ar, .inl (cI, n, .inl g))] sz)) 1 200 (va_A [(ar, .inl (cI, n, .inl g))] sz) := by
  refine Met.ofW (cc := cJ7_copyOf_59c91) (maxL := 3) (ret := (some (.array .int))) (by decide) rfl ?_
  intro p e s m args below meth c s₁ B hml hv
  obtain ⟨rfl, hsz, hP, hK, hD0, hX⟩ := hv
  have hx := B.exec
  have hb := B.bytes
  have hr := B.returns
  have hts := atoms_spec (ws := w_s_copyOf) B.pre
  have hown : s.vm.findClass RJ7 = some m.cls := findClass_of_methodNamed B.named
  have hlocks := B.notSynchronized
  subst hsz
  have hD := hD0.self (sz := s.heap.size)
  generalize hAe : va_A [(ar, .inl (cI, n, .inl g))] s.heap.size = A at hD ⊢
  have hA : ∀ q : Nat, s.heap.size ≤ q → A q := fun q h => by rw [← hAe]; exact Or.inr h
  have hS : va_S A s.heap s.heap [] := va_S.rf
  have hP : va_P (dC, dI) vwCl [(ar, .inl (cI, n, .inl g))] s.heap := hP
  have hl := lv_entry ([.ref ar, .int (nI (pn))]) (n := 3) (Nat.le_of_ble_eq_true rfl)
  rw [lg_entry_eq]
  generalize (lg_sl ([.ref ar, .int (nI (pn))]) ++ List.replicate (3 - (lg_sl ([.ref ar, .int (nI (pn))])).length) Slot.unset).toArray = ls at hl ⊢
  have hl : lv_has ls 3 [(0, .ref ar), (1, .int (nI (pn)))] := hl
  refine kQ (fun Q hQ => ?_)
  refine lv_iload_n hx hb dJ7_copyOf_59c91_0 rfl (lv_at hl 1 rfl) ?_
  refine lv_aload_n hx hb dJ7_copyOf_59c91_1 rfl (lv_at hl 0 rfl) ?_
  refine va_alen hx hb hK hP 0 0 rfl rfl (v := nI (n)) rfl dJ7_copyOf_59c91_2 ?_
  refine lv_icmp_ne (tgt := 14) hx hb dJ7_copyOf_59c91_3 kc_t_3_11 (fun c_1 => ?_) (fun c_1 => ?_)
  · have bd_3 : pn < 2147483648 := by omega
    have bd_4 : n < 2147483648 := by omega
    have hn_2 := kneq (a := pn) (b := n) bd_3 bd_4 c_1
    refine lv_iload_n hx hb dJ7_copyOf_59c91_14 rfl (lv_at hl 1 rfl) ?_
    refine va_newa (atype := .int) hx hb (hts (.arrayClass .int) (List.mem_cons_of_mem _ (List.mem_append_left _ (List.mem_of_getElem? (i := 0) rfl)))) (ty := .int) rfl hK hP hD hS hA (a0 := (pn, .inl (fun _ => 0))) (N' := pn) (kA_int (pn)) (nI_pos (by omega)) (nI_clamp (by omega)) (Nat.le_trans (Nat.mul_le_mul_right _ (show pn ≤ 200 by omega)) (by decide)) (Nat.le_of_ble_eq_true rfl) (Nat.le_trans (show 0 + pn ≤ 200 by omega) (Nat.le_of_ble_eq_true rfl)) dJ7_copyOf_59c91_15 (fun q_5 cA_6 H hK hP hD hS => ?_)
    have hPD : kPD dC dI A [(ar, .inl (cI, n, .inl g)), (q_5, .inl (cA_6, pn, .inl (fun _ => 0)))] H := ⟨hP, hD⟩
    have hP := hPD.1
    have hD := hPD.2
    have hK : va_K (dC, dI) vwCl [(cI, .int), (cA_6, .int)] s := hK
    refine W.widen (k := 1) (n := 200) (Nat.le_of_ble_eq_true rfl) (show 0 + pn ≤ 200 by omega) ?_
    refine lv_astore_n hx hb dJ7_copyOf_59c91_17 rfl hl kc_l_2_3 (kTo [(2, .ref q_5), (0, .ref ar), (1, .int (nI (pn)))]) (fun ls hl => ?_)
    refine lv_aload_n hx hb dJ7_copyOf_59c91_18 rfl (lv_at hl 1 rfl) ?_
    refine lv_iconst (v := 0) hx hb dJ7_copyOf_59c91_19 kc_i_0 ?_
    refine lv_aload_n hx hb dJ7_copyOf_59c91_20 rfl (lv_at hl 0 rfl) ?_
    refine lv_iconst (v := 0) hx hb dJ7_copyOf_59c91_21 kc_i_0 ?_
    refine lv_aload_n hx hb dJ7_copyOf_59c91_22 rfl (lv_at hl 1 rfl) ?_
    refine va_alen hx hb hK hP 0 0 rfl rfl (v := nI (n)) rfl dJ7_copyOf_59c91_23 ?_
    refine lv_iload_n hx hb dJ7_copyOf_59c91_24 rfl (lv_at hl 2 rfl) ?_
    refine va_mmin hx hb (hml.trans hl.1.symm) hown (hts (.methodLink RJ7 304 Lib.Math.min.name) (List.mem_cons_of_mem _ (List.mem_append_left _ (List.mem_of_getElem? (i := 1) rfl)))) (hts (.static Lib.Math.min.name) (List.mem_cons_of_mem _ (List.mem_append_left _ (List.mem_of_getElem? (i := 2) rfl)))) (hts (.initialized RJ9) (List.mem_cons_of_mem _ (List.mem_append_left _ (List.mem_of_getElem? (i := 3) rfl)))) (hts (.code Lib.Math.min.name Lib.Math.min.code 2 (some .int)) (List.mem_cons_of_mem _ (List.mem_append_left _ (List.mem_of_getElem? (i := 4) rfl)))) (Nat.le_of_ble_eq_true rfl) (Nat.le_of_ble_eq_true rfl) (Nat.le_of_ble_eq_true rfl) (Nat.le_of_ble_eq_true rfl) dJ7_copyOf_59c91_25 ?_
    refine lv_topi (fun x_7 ex_7 => ?_)
    obtain rfl : x_7 = nI (pn) := kMinN (a := n) (b := pn) (by omega) (by omega) ex_7
    have ecl := nI_clamp (n := pn) (by omega)
    refine va_copyi hx hb (hml.trans hl.1.symm) hown (hts (.methodLink RJ7 150 arraycopyName) (List.mem_cons_of_mem _ (List.mem_append_left _ (List.mem_of_getElem? (i := 5) rfl)))) (hts (.native arraycopyName) (List.mem_cons_of_mem _ (List.mem_append_left _ (List.mem_of_getElem? (i := 6) rfl)))) (hts (.static arraycopyName) (List.mem_cons_of_mem _ (List.mem_append_left _ (List.mem_of_getElem? (i := 7) rfl)))) (hts (.initialized RJ10) (List.mem_cons_of_mem _ (List.mem_append_left _ (List.mem_of_getElem? (i := 8) rfl)))) hK hP hD hS 0 1 0 1 rfl rfl rfl rfl rfl (by decide) (by decide) (nI_pos (by omega)) (by rw [ecl]; show 0 + pn ≤ n; omega) (by rw [ecl]; show 0 + pn ≤ pn; omega) (fun _ _ => rfl) (Nat.le_of_ble_eq_true rfl) (Nat.le_of_ble_eq_true rfl) dJ7_copyOf_59c91_28 (fun H locs hP hD hS => ?_)
    obtain ⟨f_8, ef_8⟩ : ∃ gg9 : Nat → Int32, gg9 = va_cpy g (fun _ => 0) (Int32.toNatClampNeg 0) (Int32.toNatClampNeg 0) (Int32.toNatClampNeg (nI (pn))) := ⟨_, rfl⟩
    have hPD : kPD dC dI A [(ar, .inl (cI, n, .inl g)), (q_5, .inl (cA_6, pn, .inl f_8))] H := by rw [ef_8]; exact ⟨hP, hD⟩
    have hP := hPD.1
    have hD := hPD.2
    refine lv_aload_n hx hb dJ7_copyOf_59c91_31 rfl (lv_at hl 0 rfl) ?_
    have hPD : kPD dC dI A [(ar, .inl (cI, n, .inl g)), (q_5, .inl (cA_6, pn, .inl f_8))] H := ⟨hP.sub [0, 1] rfl, hD.sub [0, 1] kc_nd_434 rfl⟩
    have hP9 := hPD.1
    have hD9 := hPD.2
    have hK9 := hK
    refine W.widen (k := 1) (n := 200) (Nat.le_of_ble_eq_true rfl) (Nat.le_of_ble_eq_true rfl) ?_
    rw [hQ]
    exact W.aret hx hb hr (Or.inr ⟨_, rfl⟩) (Or.inr ⟨_, rfl⟩) (fun t ht hW => ⟨⟨(cA_6, pn, f_8), q_5, rfl, ⟨rfl, fun j hj => by rw [ef_8]; exact kCpy (by omega) hj⟩, by rw [ht]; exact hP9, va_K.moved hW.alike hK9, hD9⟩, hS.F ht⟩) hS.2.2 dJ7_copyOf_59c91_32
  · have bd_10 : pn < 2147483648 := by omega
    have bd_11 : n < 2147483648 := by omega
    have hn_9 := keq (a := pn) (b := n) bd_10 bd_11 c_1
    refine lv_aload_n hx hb dJ7_copyOf_59c91_6 rfl (lv_at hl 0 rfl) ?_
    refine va_clone (ad := "[I") hx hb (hml.trans hl.1.symm) hown (hts (.methodLink RJ7 316 ⟨"[I", "clone", "()Ljava/lang/Object;"⟩) (List.mem_cons_of_mem _ (List.mem_append_left _ (List.mem_of_getElem? (i := 9) rfl)))) (hts (.sameMethod "[I" "java/lang/Object" "clone" "()Ljava/lang/Object;") (List.mem_cons_of_mem _ (List.mem_append_left _ (List.mem_of_getElem? (i := 10) rfl)))) (hts (.native ⟨"java/lang/Object", "clone", "()Ljava/lang/Object;"⟩) (List.mem_cons_of_mem _ (List.mem_append_left _ (List.mem_of_getElem? (i := 11) rfl)))) (hts (.instanceMethod ⟨"java/lang/Object", "clone", "()Ljava/lang/Object;"⟩) (List.mem_cons_of_mem _ (List.mem_append_left _ (List.mem_of_getElem? (i := 12) rfl)))) (hts (.selects "[I" ⟨"[I", "clone", "()Ljava/lang/Object;"⟩ ⟨"java/lang/Object", "clone", "()Ljava/lang/Object;"⟩) (List.mem_cons_of_mem _ (List.mem_append_left _ (List.mem_of_getElem? (i := 13) rfl)))) hX hK hP hD hS hA 0 0 rfl rfl (va_nm_int (hK.2 0 _ rfl).2) (va_fit (fun _ _ => rfl)) (Nat.le_of_ble_eq_true rfl) (Nat.le_of_ble_eq_true rfl) (Nat.le_of_ble_eq_true rfl) (Nat.le_trans (show 0 + n ≤ 200 by omega) (Nat.le_of_ble_eq_true rfl)) dJ7_copyOf_59c91_7 (fun q_12 H hK hP hD hS => ?_)
    have hPD : kPD dC dI A [(ar, .inl (cI, n, .inl g)), (q_12, .inl (cI, n, .inl g))] H := ⟨hP, hD⟩
    have hP := hPD.1
    have hD := hPD.2
    have hK : va_K (dC, dI) vwCl [(cI, .int), (cI, .int)] s := hK
    refine W.widen (k := 1) (n := 200) (Nat.le_of_ble_eq_true rfl) (show 0 + n ≤ 200 by omega) ?_
    refine va_castA (nm := "[I") hx hb hown (hts (.classLink RJ7 317 "[I") (List.mem_cons_of_mem _ (List.mem_append_left _ (List.mem_of_getElem? (i := 14) rfl)))) hP 1 rfl (va_nm_int (hK.2 0 _ rfl).2) dJ7_copyOf_59c91_10 ?_
    have hPD : kPD dC dI A [(ar, .inl (cI, n, .inl g)), (q_12, .inl (cI, n, .inl g))] H := ⟨hP.sub [0, 1] rfl, hD.sub [0, 1] kc_nd_434 rfl⟩
    have hP9 := hPD.1
    have hD9 := hPD.2
    have hK9 := hK.sb (tys2 := [(cI, .int), (cI, .int)]) [0, 0] rfl
    refine W.widen (k := 1) (n := 200) (Nat.le_of_ble_eq_true rfl) (Nat.le_of_ble_eq_true rfl) ?_
    rw [hQ]
    exact W.aret hx hb hr (Or.inr ⟨_, rfl⟩) (Or.inr ⟨_, rfl⟩) (fun t ht hW => ⟨⟨(cI, n, g), q_12, rfl, ⟨by show n = pn; omega, fun _ _ => rfl⟩, by rw [ht]; exact hP9, va_K.moved hW.alike hK9, hD9⟩, hS.F ht⟩) hS.2.2 dJ7_copyOf_59c91_13

theorem dX6_init_0 : decode cX6_init 0 = .ok (.aload_n 0, 1) := kDs0 kf_42 (by decide +kernel)
theorem dX6_init_1 : decode cX6_init 1 = .ok (.invokespecial 1, 3) := kDs2 kf_183 (by decide +kernel)
theorem dX6_init_4 : decode cX6_init 4 = .ok (.aload_n 0, 1) := kDs0 kf_42 (by decide +kernel)
theorem dX6_init_5 : decode cX6_init 5 = .ok (.aload_n 1, 1) := kDs0 kf_43 (by decide +kernel)
theorem dX6_init_6 : decode cX6_init 6 = .ok (.putfield 7, 3) := kDs2 kf_181 (by decide +kernel)
theorem dX6_init_9 : decode cX6_init 9 = .ok (.aload_n 0, 1) := kDs0 kf_42 (by decide +kernel)
theorem dX6_init_10 : decode cX6_init 10 = .ok (.aload_n 2, 1) := kDs0 kf_44 (by decide +kernel)
theorem dX6_init_11 : decode cX6_init 11 = .ok (.putfield 13, 3) := kDs2 kf_181 (by decide +kernel)
theorem dX6_init_14 : decode cX6_init 14 = .ok (.return_, 1) := kDs0 kf_177 (by decide +kernel)
def w_s_init6 : List Cond := .code yX6_init cX6_init 3 none :: ([.methodLink RX6 1 objectInit, .instanceMethod objectInit, .code objectInit ⟨#[0xb1]⟩ 1 none, .fieldLink RX6 7 "NotEnded$Rule" "steps" "[I", .fieldLink RX6 13 "NotEnded$Rule" "clauses" "[I"] ++ (wsX60))
theorem gw_s_init6 : (w_s_init6).all goodWord = true := kGc rfl (kGa (by decide +kernel) gw_wsX60)
theorem hd_X6_init : yX6_init.cls ≠ "java/lang/invoke/MethodHandle" ∧ yX6_init.cls ≠ "java/lang/invoke/VarHandle" ∧ (parseMethodDescriptor yX6_init.desc).map (fun d => d.parameters.length) = some 2 := by decide +kernel
set_option maxHeartbeats 4000000 in
set_option maxRecDepth 100000 in
theorem s_init6 (l : Launch) (dC : Nat → ClassId) (dI : Nat → Nat → Nat) (ru : Nat) (sA : Nat) (cl : Nat) (sz : Nat) : Met l yX6_init w_s_init6 ({ frames := 2, cells := 0, slots := 0, locals := 120 }) (kW dC dI [.ref ru, .ref sA, .ref cl] [(ru, .inr (6, [.null, .null]))] [] kT sz) (va_Qv (fun (_ : Unit) => True) (fun (_ : Unit) => fun t : State => kB dC dI [(ru, .inr (6, [.ref sA, .ref cl]))] [] (va_A [(ru, .inr (6, [.null, .null]))] sz) t) (va_A [(ru, .inr (6, [.null, .null]))] sz)) 0 0 (va_A [(ru, .inr (6, [.null, .null]))] sz) := by
  refine Met.ofW (cc := cX6_init) (maxL := 3) (ret := none) (by decide) rfl ?_
  intro p e s m args below meth c s₁ B hml hv
  obtain ⟨rfl, hsz, hP, hK, hD0, hX⟩ := hv
  have hx := B.exec
  have hb := B.bytes
  have hr := B.returns
  have hts := atoms_spec (ws := w_s_init6) B.pre
  have hown : s.vm.findClass RX6 = some m.cls := findClass_of_methodNamed B.named
  have hlocks := B.notSynchronized
  have hin : meth.name = "<init>" := (name_of_methodNamed B.named B.method).1
  subst hsz
  have hD := hD0.self (sz := s.heap.size)
  generalize hAe : va_A [(ru, .inr (6, [.null, .null]))] s.heap.size = A at hD ⊢
  have hA : ∀ q : Nat, s.heap.size ≤ q → A q := fun q h => by rw [← hAe]; exact Or.inr h
  have hS : va_S A s.heap s.heap [] := va_S.rf
  have hP : va_P (dC, dI) vwCl [(ru, .inr (6, [.null, .null]))] s.heap := hP
  have hl := lv_entry ([.ref ru, .ref sA, .ref cl]) (n := 3) (Nat.le_of_ble_eq_true rfl)
  rw [lg_entry_eq]
  generalize (lg_sl ([.ref ru, .ref sA, .ref cl]) ++ List.replicate (3 - (lg_sl ([.ref ru, .ref sA, .ref cl])).length) Slot.unset).toArray = ls at hl ⊢
  have hl : lv_has ls 3 [(0, .ref ru), (1, .ref sA), (2, .ref cl)] := hl
  refine kQ (fun Q hQ => ?_)
  refine lv_aload_n hx hb dX6_init_0 rfl (lv_at hl 0 rfl) ?_
  refine W.objInit hx hb hown (hts (.methodLink RX6 1 objectInit) (List.mem_cons_of_mem _ (List.mem_append_left _ (List.mem_of_getElem? (i := 0) rfl)))) (hts (.instanceMethod objectInit) (List.mem_cons_of_mem _ (List.mem_append_left _ (List.mem_of_getElem? (i := 1) rfl)))) (hts (.code objectInit ⟨#[0xb1]⟩ 1 none) (List.mem_cons_of_mem _ (List.mem_append_left _ (List.mem_of_getElem? (i := 2) rfl)))) rfl (by rw [hml]; exact hl.1) rfl dX6_init_1 (Nat.le_of_ble_eq_true rfl) (Nat.le_of_ble_eq_true rfl) ?_
  refine W.eq (g2 := F0 m 4 ls []) rfl ?_
  refine lv_aload_n hx hb dX6_init_4 rfl (lv_at hl 0 rfl) ?_
  refine lv_aload_n hx hb dX6_init_5 rfl (lv_at hl 1 rfl) ?_
  refine va_putF (D := (dC, dI)) (ci := 6) (v := .ref sA) (ty := tyX6 0) (C := RX6) (T := TX6) (N := 2) hx hb hts (fun _ h => List.mem_cons_of_mem _ (List.mem_append_right _ h)) tyX6 tyX6_ok nmX6 hown hK hP hD hS 0 rfl rfl 0 kc_l_0_2 (hts (.fieldLink RX6 7 "NotEnded$Rule" "steps" "[I") (List.mem_cons_of_mem _ (List.mem_append_left _ (List.mem_of_getElem? (i := 3) rfl)))) (fun _ h9 => h9) rfl hin rfl (tyX6_ok 0 kc_l_0_2) rfl rfl (Nat.le_of_ble_eq_true rfl) dX6_init_6 (fun H locs hP hD hS => ?_)
  have hPD : kPD dC dI A [(ru, .inr (6, [.ref sA, .null]))] H := ⟨hP, hD⟩
  have hP := hPD.1
  have hD := hPD.2
  refine lv_aload_n hx hb dX6_init_9 rfl (lv_at hl 0 rfl) ?_
  refine lv_aload_n hx hb dX6_init_10 rfl (lv_at hl 2 rfl) ?_
  refine va_putF (D := (dC, dI)) (ci := 6) (v := .ref cl) (ty := tyX6 1) (C := RX6) (T := TX6) (N := 2) hx hb hts (fun _ h => List.mem_cons_of_mem _ (List.mem_append_right _ h)) tyX6 tyX6_ok nmX6 hown hK hP hD hS 0 rfl rfl 1 kc_l_1_2 (hts (.fieldLink RX6 13 "NotEnded$Rule" "clauses" "[I") (List.mem_cons_of_mem _ (List.mem_append_left _ (List.mem_of_getElem? (i := 4) rfl)))) (fun _ h9 => h9) rfl hin rfl (tyX6_ok 1 kc_l_1_2) rfl rfl (Nat.le_of_ble_eq_true rfl) dX6_init_11 (fun H locs hP hD hS => ?_)
  have hPD : kPD dC dI A [(ru, .inr (6, [.ref sA, .ref cl]))] H := ⟨hP, hD⟩
  have hP := hPD.1
  have hD := hPD.2
  have hP9 := hP
  have hD9 := hD
  have hK9 := hK
  rw [hQ]
  exact W.vret hx hb hr (fun t ht hW => ⟨⟨(), rfl, trivial,  by rw [ht]; exact hP9, va_K.moved hW.alike hK9, hD9⟩, hS.F ht⟩) hS.2.2 dX6_init_14

theorem dX4_rule_0 : decode cX4_rule 0 = .ok (.new 61, 3) := kDs2 kf_187 (by decide +kernel)
theorem dX4_rule_3 : decode cX4_rule 3 = .ok (.dup, 1) := kDs0 kf_89 (by decide +kernel)
theorem dX4_rule_4 : decode cX4_rule 4 = .ok (.aload_n 0, 1) := kDs0 kf_42 (by decide +kernel)
theorem dX4_rule_5 : decode cX4_rule 5 = .ok (.getfield 9, 3) := kDs2 kf_180 (by decide +kernel)
theorem dX4_rule_8 : decode cX4_rule 8 = .ok (.aload_n 0, 1) := kDs0 kf_42 (by decide +kernel)
theorem dX4_rule_9 : decode cX4_rule 9 = .ok (.getfield 18, 3) := kDs2 kf_180 (by decide +kernel)
theorem dX4_rule_12 : decode cX4_rule 12 = .ok (.invokestatic 63, 3) := kDs2 kf_184 (by decide +kernel)
theorem dX4_rule_15 : decode cX4_rule 15 = .ok (.aload_n 0, 1) := kDs0 kf_42 (by decide +kernel)
theorem dX4_rule_16 : decode cX4_rule 16 = .ok (.getfield 15, 3) := kDs2 kf_180 (by decide +kernel)
theorem dX4_rule_19 : decode cX4_rule 19 = .ok (.aload_n 0, 1) := kDs0 kf_42 (by decide +kernel)
theorem dX4_rule_20 : decode cX4_rule 20 = .ok (.getfield 22, 3) := kDs2 kf_180 (by decide +kernel)
theorem dX4_rule_23 : decode cX4_rule 23 = .ok (.invokestatic 63, 3) := kDs2 kf_184 (by decide +kernel)
theorem dX4_rule_26 : decode cX4_rule 26 = .ok (.invokespecial 69, 3) := kDs2 kf_183 (by decide +kernel)
theorem dX4_rule_29 : decode cX4_rule 29 = .ok (.areturn, 1) := kDs0 kf_176 (by decide +kernel)
def w_s_rule4 : List Cond := .code yX4_rule cX4_rule 1 (some (.object "NotEnded$Rule")) :: ([.classLink RX4 61 RX6, .instantiable RX6 2, .initialized RX6, .fieldLink RX4 9 "NotEnded$Reader" "steps" "[I", .fieldLink RX4 18 "NotEnded$Reader" "written" "I", .initialized RJ7, .static yJ7_copyOf_59c91, .methodLink RX4 63 yJ7_copyOf_59c91, .fieldLink RX4 15 "NotEnded$Reader" "clauses" "[I", .fieldLink RX4 22 "NotEnded$Reader" "filled" "I", .methodLink RX4 69 yX6_init, .instanceMethod yX6_init] ++ (wsX60 ++ (wsX40 ++ (w_s_copyOf ++ (w_s_init6)))))
theorem gw_s_rule4 : (w_s_rule4).all goodWord = true := kGc rfl (kGa (by decide +kernel) (kGa gw_wsX60 (kGa gw_wsX40 (kGa gw_s_copyOf gw_s_init6))))
theorem hd_X4_rule : yX4_rule.cls ≠ "java/lang/invoke/MethodHandle" ∧ yX4_rule.cls ≠ "java/lang/invoke/VarHandle" ∧ (parseMethodDescriptor yX4_rule.desc).map (fun d => d.parameters.length) = some 0 := by decide +kernel
set_option maxHeartbeats 4000000 in
set_option maxRecDepth 100000 in
theorem s_rule4 (l : Launch) (dC : Nat → ClassId) (dI : Nat → Nat → Nat) (jT : Nat) (t0 : Nat) (cC : ClassId) (gT : Nat → Int32) (kt : Nat) (hkt : kt ≤ 120) (hgT : ∀ j : Nat, narrow .char (.int (gT j)) = .int (gT j)) (jR : Nat) (r1 : Nat) (r2 : Nat) (c1 : ClassId) (c2 : ClassId) (s1 : Nat → Int32) (s2 : Nat → Int32) (wr : Nat) (fi : Nat) (pl : Int32) (hwr : wr ≤ 120) (hfi : fi ≤ 124) (v6 : Value) (v7 : Value) (sz : Nat) : Met l yX4_rule w_s_rule4 ({ frames := 3, cells := 3, slots := 402, locals := 180 }) (kW dC dI [.ref jR] [(jR, .inr (4, [.ref jT, .ref r1, .ref r2, .int (nI (wr)), .int (nI (fi)), .int pl, v6, v7])), (r1, .inl (c1, 120, .inl s1)), (r2, .inl (c2, 124, .inl s2)), (jT, .inr (8, [.ref t0, .int (nI (kt))])), (t0, .inl (cC, 120, .inl gT))] [(c1, .int), (c2, .int), (cC, .char)] kCl sz) (va_Qr (fun (u : Nat × Nat × ClassId × ClassId × Nat × Nat × (Nat → Int32) × (Nat → Int32)) => match u with | (sA, cl, cS, cc, nS, nC, gS, gC) => (nS = wr ∧ nC = fi ∧ (∀ j : Nat, j < wr → gS j = s1 j) ∧ (∀ j : Nat, j < fi → gC j = s2 j))) (fun (u : Nat × Nat × ClassId × ClassId × Nat × Nat × (Nat → Int32) × (Nat → Int32)) (ra : Nat) (t : State) => match u with | (sA, cl, cS, cc, nS, nC, gS, gC) => kB dC dI [(jR, .inr (4, [.ref jT, .ref r1, .ref r2, .int (nI (wr)), .int (nI (fi)), .int pl, v6, v7])), (r1, .inl (c1, 120, .inl s1)), (r2, .inl (c2, 124, .inl s2)), (jT, .inr (8, [.ref t0, .int (nI (kt))])), (t0, .inl (cC, 120, .inl gT)), (ra, .inr (6, [.ref sA, .ref cl])), (sA, .inl (cS, nS, .inl gS)), (cl, .inl (cc, nC, .inl gC))] [(c1, .int), (c2, .int), (cC, .char), (cS, .int), (cc, .int)] (va_A [(jR, .inr (4, [.ref jT, .ref r1, .ref r2, .int (nI (wr)), .int (nI (fi)), .int pl, v6, v7])), (r1, .inl (c1, 120, .inl s1)), (r2, .inl (c2, 124, .inl s2)), (jT, .inr (8, [.ref t0, .int (nI (kt))])), (t0, .inl (cC, 120, .inl gT))] sz) t) (va_A [(jR, .inr (4, [.ref jT, .ref r1, .ref r2, .int (nI (wr)), .int (nI (fi)), .int pl, v6, v7])), (r1, .inl (c1, 120, .inl s1)), (r2, .inl (c2, 124, .inl s2)), (jT, .inr (8, [.ref t0, .int (nI (kt))])), (t0, .inl (cC, 120, .inl gT))] sz)) 3 402 (va_A [(jR, .inr (4, [.ref jT, .ref r1, .ref r2, .int (nI (wr)), .int (nI (fi)), .int pl, v6, v7])), (r1, .inl (c1, 120, .inl s1)), (r2, .inl (c2, 124, .inl s2)), (jT, .inr (8, [.ref t0, .int (nI (kt))])), (t0, .inl (cC, 120, .inl gT))] sz) := by
  refine Met.ofW (cc := cX4_rule) (maxL := 1) (ret := (some (.object "NotEnded$Rule"))) (by decide) rfl ?_
  intro p e s m args below meth c s₁ B hml hv
  obtain ⟨rfl, hsz, hP, hK, hD0, hX⟩ := hv
  have hx := B.exec
  have hb := B.bytes
  have hr := B.returns
  have hts := atoms_spec (ws := w_s_rule4) B.pre
  have hown : s.vm.findClass RX4 = some m.cls := findClass_of_methodNamed B.named
  have hlocks := B.notSynchronized
  subst hsz
  have hD := hD0.self (sz := s.heap.size)
  generalize hAe : va_A [(jR, .inr (4, [.ref jT, .ref r1, .ref r2, .int (nI (wr)), .int (nI (fi)), .int pl, v6, v7])), (r1, .inl (c1, 120, .inl s1)), (r2, .inl (c2, 124, .inl s2)), (jT, .inr (8, [.ref t0, .int (nI (kt))])), (t0, .inl (cC, 120, .inl gT))] s.heap.size = A at hD ⊢
  have hA : ∀ q : Nat, s.heap.size ≤ q → A q := fun q h => by rw [← hAe]; exact Or.inr h
  have hS : va_S A s.heap s.heap [] := va_S.rf
  have hP : va_P (dC, dI) vwCl [(jR, .inr (4, [.ref jT, .ref r1, .ref r2, .int (nI (wr)), .int (nI (fi)), .int pl, v6, v7])), (r1, .inl (c1, 120, .inl s1)), (r2, .inl (c2, 124, .inl s2)), (jT, .inr (8, [.ref t0, .int (nI (kt))])), (t0, .inl (cC, 120, .inl gT))] s.heap := hP
  have hl := lv_entry ([.ref jR]) (n := 1) (Nat.le_of_ble_eq_true rfl)
  rw [lg_entry_eq]
  generalize (lg_sl ([.ref jR]) ++ List.replicate (1 - (lg_sl ([.ref jR])).length) Slot.unset).toArray = ls at hl ⊢
  have hl : lv_has ls 1 [(0, .ref jR)] := hl
  refine kQ (fun Q hQ => ?_)
  refine va_new (ci := 6) (fs := [.null, .null]) (C := RX6) (T := TX6) (N := 2) hx hb hts (fun _ h => List.mem_cons_of_mem _ (List.mem_append_right _ (List.mem_append_left _ h))) tyX6 tyX6_ok hown (hts (.classLink RX4 61 RX6) (List.mem_cons_of_mem _ (List.mem_append_left _ (List.mem_of_getElem? (i := 0) rfl)))) (hts (.instantiable RX6 2) (List.mem_cons_of_mem _ (List.mem_append_left _ (List.mem_of_getElem? (i := 1) rfl)))) (hts (.initialized RX6) (List.mem_cons_of_mem _ (List.mem_append_left _ (List.mem_of_getElem? (i := 2) rfl)))) hK hP hD hS hA rfl (fun j hj => by rcases (show j = 0 ∨ j = 1 by omega) with rfl | rfl <;> rfl) (Nat.le_of_ble_eq_true rfl) (Nat.le_of_ble_eq_true rfl) dX4_rule_0 (fun q_1 H hP hD hS => ?_)
  have hPD : kPD dC dI A [(jR, .inr (4, [.ref jT, .ref r1, .ref r2, .int (nI (wr)), .int (nI (fi)), .int pl, v6, v7])), (r1, .inl (c1, 120, .inl s1)), (r2, .inl (c2, 124, .inl s2)), (jT, .inr (8, [.ref t0, .int (nI (kt))])), (t0, .inl (cC, 120, .inl gT)), (q_1, .inr (6, [.null, .null]))] H := ⟨hP, hD⟩
  have hP := hPD.1
  have hD := hPD.2
  refine W.widen (k := 1) (n := 2) (Nat.le_of_ble_eq_true rfl) (Nat.le_of_ble_eq_true rfl) ?_
  refine lv_dup hx hb dX4_rule_3 rfl ?_
  refine lv_aload_n hx hb dX4_rule_4 rfl (lv_at hl 0 rfl) ?_
  refine va_get (D := (dC, dI)) (ci := 4) (v := .ref r1) (C := RX4) (T := TX4) (N := 8) hx hb hts (fun _ h => List.mem_cons_of_mem _ (List.mem_append_right _ (List.mem_append_right _ (List.mem_append_left _ h)))) hown hK hP 0 rfl rfl 1 kc_l_1_8 (hts (.fieldLink RX4 9 "NotEnded$Reader" "steps" "[I") (List.mem_cons_of_mem _ (List.mem_append_left _ (List.mem_of_getElem? (i := 3) rfl)))) (fun _ h9 => h9) rfl dX4_rule_5 ?_
  refine lv_aload_n hx hb dX4_rule_8 rfl (lv_at hl 0 rfl) ?_
  refine va_get (D := (dC, dI)) (ci := 4) (v := .int (nI (wr))) (C := RX4) (T := TX4) (N := 8) hx hb hts (fun _ h => List.mem_cons_of_mem _ (List.mem_append_right _ (List.mem_append_right _ (List.mem_append_left _ h)))) hown hK hP 0 rfl rfl 3 kc_l_3_8 (hts (.fieldLink RX4 18 "NotEnded$Reader" "written" "I") (List.mem_cons_of_mem _ (List.mem_append_left _ (List.mem_of_getElem? (i := 4) rfl)))) (fun _ h9 => h9) rfl dX4_rule_9 ?_
  have hCu := kCut (wc := [(r1, .inl (c1, 120, .inl s1))]) hP hD hS hA [1] rfl kc_nd_435 rfl
  have hPc := hCu.1
  have hDc := hCu.2.1
  have hFc := hCu.2.2
  have hKc := hK.sb (tys2 := [(c1, .int)]) [0] rfl
  refine va_callr (va_runS (As := [.ref r1, .int (nI (wr))]) (rest := [.ref q_1, .ref q_1]) ⟨hx, hb, hml, hown, hts⟩ (s_copyOf l dC dI r1 c1 120 s1 (Nat.le_of_ble_eq_true rfl) wr hwr H.size) (va_cwS 2 hts (kG (List.forall_mem_cons.mpr ⟨(List.mem_cons_of_mem _ (List.mem_append_left _ (List.mem_of_getElem? (i := 7) rfl))), (List.forall_mem_cons.mpr ⟨(List.mem_cons_of_mem _ (List.mem_append_left _ (List.mem_of_getElem? (i := 6) rfl))), (List.forall_mem_cons.mpr ⟨(List.mem_cons_of_mem _ (List.mem_append_left _ (List.mem_of_getElem? (i := 5) rfl))), (fun _ h => absurd h List.not_mem_nil)⟩)⟩)⟩) (kGS _ _ _) (fun _ h => List.mem_cons_of_mem _ (List.mem_append_right _ (List.mem_append_right _ (List.mem_append_right _ (List.mem_append_left _ h))))) gw_s_copyOf) rfl rfl rfl hd_J7_copyOf_59c91 ⟨(Nat.le_of_ble_eq_true rfl), (Nat.le_of_ble_eq_true rfl)⟩) (kW_S kCl_blind (kCl_give hX) hPc hKc hDc) rfl rfl hl.1 rfl (lv_room (Nat.le_of_ble_eq_true rfl)) dX4_rule_12 ⟨(Nat.le_of_ble_eq_true rfl), (Nat.le_of_ble_eq_true rfl)⟩) hS (fun q _ h => hFc q h) hFc (kU3 (fun cN_3 nN_4 gN_5 r_2 t H1 locs ht hvm hw hB hz1 hk1 hS => ?_))
  obtain ⟨hP1, hK1, hD1⟩ := hB
  rw [ht] at hP1
  try dsimp only at hw
  have hPD : kPD dC dI A [(jR, .inr (4, [.ref jT, .ref r1, .ref r2, .int (nI (wr)), .int (nI (fi)), .int pl, v6, v7])), (r2, .inl (c2, 124, .inl s2)), (jT, .inr (8, [.ref t0, .int (nI (kt))])), (t0, .inl (cC, 120, .inl gT)), (q_1, .inr (6, [.null, .null])), (r1, .inl (c1, 120, .inl s1)), (r_2, .inl (cN_3, nN_4, .inl gN_5))] H1 := kJoin hP hD [1] [0, 2, 3, 4, 5] rfl rfl (by decide) (by decide) hk1 hFc hP1 hD1 rfl
  have hP := hPD.1
  have hD := hPD.2
  have hK1 := va_K.moved hvm.symm hK1
  have hK := hK.app hK1
  have hK : va_K (dC, dI) vwCl [(c1, .int), (c2, .int), (cC, .char), (c1, .int), (cN_3, .int)] s := hK
  generalize H1 = H at hP hS ⊢
  refine W.widen (k := 2) (n := 202) (Nat.le_of_ble_eq_true rfl) (Nat.le_of_ble_eq_true rfl) ?_
  have hw_6 := hw
  have hw_6_0 := hw_6.1
  refine lv_aload_n hx hb dX4_rule_15 rfl (lv_at hl 0 rfl) ?_
  refine va_get (D := (dC, dI)) (ci := 4) (v := .ref r2) (C := RX4) (T := TX4) (N := 8) hx hb hts (fun _ h => List.mem_cons_of_mem _ (List.mem_append_right _ (List.mem_append_right _ (List.mem_append_left _ h)))) hown hK hP 0 rfl rfl 2 kc_l_2_8 (hts (.fieldLink RX4 15 "NotEnded$Reader" "clauses" "[I") (List.mem_cons_of_mem _ (List.mem_append_left _ (List.mem_of_getElem? (i := 8) rfl)))) (fun _ h9 => h9) rfl dX4_rule_16 ?_
  refine lv_aload_n hx hb dX4_rule_19 rfl (lv_at hl 0 rfl) ?_
  refine va_get (D := (dC, dI)) (ci := 4) (v := .int (nI (fi))) (C := RX4) (T := TX4) (N := 8) hx hb hts (fun _ h => List.mem_cons_of_mem _ (List.mem_append_right _ (List.mem_append_right _ (List.mem_append_left _ h)))) hown hK hP 0 rfl rfl 4 kc_l_4_8 (hts (.fieldLink RX4 22 "NotEnded$Reader" "filled" "I") (List.mem_cons_of_mem _ (List.mem_append_left _ (List.mem_of_getElem? (i := 9) rfl)))) (fun _ h9 => h9) rfl dX4_rule_20 ?_
  have hCu := kCut (wc := [(r2, .inl (c2, 124, .inl s2))]) hP hD hS hA [1] rfl kc_nd_435 rfl
  have hPc := hCu.1
  have hDc := hCu.2.1
  have hFc := hCu.2.2
  have hKc := hK.sb (tys2 := [(c2, .int)]) [1] rfl
  refine va_callr (va_runS (As := [.ref r2, .int (nI (fi))]) (rest := [.ref r_2, .ref q_1, .ref q_1]) ⟨hx, hb, hml, hown, hts⟩ (s_copyOf l dC dI r2 c2 124 s2 (Nat.le_of_ble_eq_true rfl) fi hfi H.size) (va_cwS 2 hts (kG (List.forall_mem_cons.mpr ⟨(List.mem_cons_of_mem _ (List.mem_append_left _ (List.mem_of_getElem? (i := 7) rfl))), (List.forall_mem_cons.mpr ⟨(List.mem_cons_of_mem _ (List.mem_append_left _ (List.mem_of_getElem? (i := 6) rfl))), (List.forall_mem_cons.mpr ⟨(List.mem_cons_of_mem _ (List.mem_append_left _ (List.mem_of_getElem? (i := 5) rfl))), (fun _ h => absurd h List.not_mem_nil)⟩)⟩)⟩) (kGS _ _ _) (fun _ h => List.mem_cons_of_mem _ (List.mem_append_right _ (List.mem_append_right _ (List.mem_append_right _ (List.mem_append_left _ h))))) gw_s_copyOf) rfl rfl rfl hd_J7_copyOf_59c91 ⟨(Nat.le_of_ble_eq_true rfl), (Nat.le_of_ble_eq_true rfl)⟩) (kW_S kCl_blind (kCl_give hX) hPc hKc hDc) rfl rfl hl.1 rfl (lv_room (Nat.le_of_ble_eq_true rfl)) dX4_rule_23 ⟨(Nat.le_of_ble_eq_true rfl), (Nat.le_of_ble_eq_true rfl)⟩) hS (fun q _ h => hFc q h) hFc (kU3 (fun cN_8 nN_9 gN_10 r_7 t H1 locs ht hvm hw hB hz1 hk1 hS => ?_))
  obtain ⟨hP1, hK1, hD1⟩ := hB
  rw [ht] at hP1
  try dsimp only at hw
  have hPD : kPD dC dI A [(jR, .inr (4, [.ref jT, .ref r1, .ref r2, .int (nI (wr)), .int (nI (fi)), .int pl, v6, v7])), (jT, .inr (8, [.ref t0, .int (nI (kt))])), (t0, .inl (cC, 120, .inl gT)), (q_1, .inr (6, [.null, .null])), (r1, .inl (c1, 120, .inl s1)), (r_2, .inl (cN_3, nN_4, .inl gN_5)), (r2, .inl (c2, 124, .inl s2)), (r_7, .inl (cN_8, nN_9, .inl gN_10))] H1 := kJoin hP hD [1] [0, 2, 3, 4, 5, 6] rfl rfl (by decide) (by decide) hk1 hFc hP1 hD1 rfl
  have hP := hPD.1
  have hD := hPD.2
  have hK1 := va_K.moved hvm.symm hK1
  have hK := hK.app hK1
  have hK : va_K (dC, dI) vwCl [(c1, .int), (c2, .int), (cC, .char), (c1, .int), (cN_3, .int), (c2, .int), (cN_8, .int)] s := hK
  generalize H1 = H at hP hS ⊢
  refine W.widen (k := 3) (n := 402) (Nat.le_of_ble_eq_true rfl) (Nat.le_of_ble_eq_true rfl) ?_
  have hw_11 := hw
  have hw_11_0 := hw_11.1
  have hCu := kCut (wc := [(q_1, .inr (6, [.null, .null]))]) hP hD hS hA [3] rfl kc_nd_436 rfl
  have hPc := hCu.1
  have hDc := hCu.2.1
  have hFc := hCu.2.2
  have hKc := hK.sb (tys2 := []) [] rfl
  refine va_callv (va_runI (As := [.ref r_2, .ref r_7]) (rest := [.ref q_1]) ⟨hx, hb, hml, hown, hts⟩ (s_init6 l dC dI q_1 r_2 r_7 H.size) (cwI 2 hts (goodIn_sub (fun _ h => List.mem_cons_of_mem _ (List.mem_append_right _ (List.mem_append_right _ (List.mem_append_right _ (List.mem_append_right _ h))))) gw_s_init6) rfl rfl rfl (hts (.initialized RX6) (List.mem_cons_of_mem _ (List.mem_append_left _ (List.mem_of_getElem? (i := 2) rfl)))) (hts (.methodLink RX4 69 yX6_init) (List.mem_cons_of_mem _ (List.mem_append_left _ (List.mem_of_getElem? (i := 10) rfl)))) (hts (.instanceMethod yX6_init) (List.mem_cons_of_mem _ (List.mem_append_left _ (List.mem_of_getElem? (i := 11) rfl)))) rfl hd_X6_init ⟨(Nat.le_of_ble_eq_true rfl), (Nat.le_of_ble_eq_true rfl)⟩) (kW_S kT_blind kT_give hPc hKc hDc) rfl rfl hl.1 rfl (lv_room (Nat.le_of_ble_eq_true rfl)) dX4_rule_26 ⟨(Nat.le_of_ble_eq_true rfl), (Nat.le_of_ble_eq_true rfl)⟩) hS (fun q _ h => hFc q h) hFc (fun _ t H_12 locs ht hvm hw hB hz1 hk1 hS => ?_)
  have hPD : kPD dC dI A [(jR, .inr (4, [.ref jT, .ref r1, .ref r2, .int (nI (wr)), .int (nI (fi)), .int pl, v6, v7])), (jT, .inr (8, [.ref t0, .int (nI (kt))])), (t0, .inl (cC, 120, .inl gT)), (q_1, .inr (6, [.ref r_2, .ref r_7])), (r1, .inl (c1, 120, .inl s1)), (r_2, .inl (cN_3, nN_4, .inl gN_5)), (r2, .inl (c2, 124, .inl s2)), (r_7, .inl (cN_8, nN_9, .inl gN_10))] H_12 := kJoinX hP hD [3] rfl hk1 hFc hB.1 ht hB.2.2 rfl [none, none, none, some 0, none, none, none, none] rfl rfl
  have hP := hPD.1
  have hD := hPD.2
  have hPD : kPD dC dI A [(jR, .inr (4, [.ref jT, .ref r1, .ref r2, .int (nI (wr)), .int (nI (fi)), .int pl, v6, v7])), (r1, .inl (c1, 120, .inl s1)), (r2, .inl (c2, 124, .inl s2)), (jT, .inr (8, [.ref t0, .int (nI (kt))])), (t0, .inl (cC, 120, .inl gT)), (q_1, .inr (6, [.ref r_2, .ref r_7])), (r_2, .inl (cN_3, nN_4, .inl gN_5)), (r_7, .inl (cN_8, nN_9, .inl gN_10))] H_12 := ⟨hP.sub [0, 4, 6, 1, 2, 3, 5, 7] rfl, hD.sub [0, 4, 6, 1, 2, 3, 5, 7] kc_nd_437 rfl⟩
  have hP9 := hPD.1
  have hD9 := hPD.2
  have hK9 := hK.sb (tys2 := [(c1, .int), (c2, .int), (cC, .char), (cN_3, .int), (cN_8, .int)]) [0, 1, 2, 4, 6] rfl
  refine W.widen (k := 3) (n := 402) (Nat.le_of_ble_eq_true rfl) (Nat.le_of_ble_eq_true rfl) ?_
  rw [hQ]
  exact W.aret hx hb hr (Or.inl ⟨_, rfl⟩) (Or.inr ⟨_, rfl⟩) (fun t ht hW => ⟨⟨(r_2, r_7, cN_3, cN_8, nN_4, nN_9, gN_5, gN_10), q_1, rfl, ⟨hw_6.1, hw_11.1, hw_6.2, hw_11.2⟩, by rw [ht]; exact hP9, va_K.moved hW.alike hK9, hD9⟩, hS.F ht⟩) hS.2.2 dX4_rule_29

theorem dX7_size_0 : decode cX7_size 0 = .ok (.aload_n 0, 1) := kDs0 kf_42 (by decide +kernel)
theorem dX7_size_1 : decode cX7_size 1 = .ok (.getfield 9, 3) := kDs2 kf_180 (by decide +kernel)
theorem dX7_size_4 : decode cX7_size 4 = .ok (.ireturn, 1) := kDs0 kf_172 (by decide +kernel)
def w_s_size7 : List Cond := .code yX7_size cX7_size 1 (some .int) :: ([.fieldLink RX7 9 "NotEnded$Shelf" "size" "I"] ++ (wsX70))
theorem gw_s_size7 : (w_s_size7).all goodWord = true := kGc rfl (kGa (by decide +kernel) gw_wsX70)
theorem hd_X7_size : yX7_size.cls ≠ "java/lang/invoke/MethodHandle" ∧ yX7_size.cls ≠ "java/lang/invoke/VarHandle" ∧ (parseMethodDescriptor yX7_size.desc).map (fun d => d.parameters.length) = some 0 := by decide +kernel
set_option maxHeartbeats 4000000 in
set_option maxRecDepth 100000 in
theorem s_size7 (l : Launch) (dC : Nat → ClassId) (dI : Nat → Nat → Nat) (jS : Nat) (rS : Nat) (cH : ClassId) (gH : Nat → Option Nat) (kh : Nat) (nH : Nat) (hnH : nH ≤ 8) (hkh : kh ≤ nH) : Met l yX7_size w_s_size7 ({ frames := 1, cells := 0, slots := 0, locals := 60 }) (kR dC dI [.ref jS] [(jS, .inr (7, [.ref rS, .int (nI (kh))])), (rS, .inl (cH, nH, .inr (.inr (.inr (.inr gH)))))] [(cH, .object RX6)] kT) (vp_Si (fun r : Int32 => r = nI kh)) 0 0 (fun _ => False) := by
  refine Met.ofW (cc := cX7_size) (maxL := 1) (ret := (some .int)) (by decide) rfl ?_
  intro p e s m args below meth c s₁ B hml hv
  obtain ⟨rfl, hP, hK, hX⟩ := hv
  have hx := B.exec
  have hb := B.bytes
  have hr := B.returns
  have hts := atoms_spec (ws := w_s_size7) B.pre
  have hown : s.vm.findClass RX7 = some m.cls := findClass_of_methodNamed B.named
  have hlocks := B.notSynchronized
  have hP : va_P (dC, dI) vwCl [(jS, .inr (7, [.ref rS, .int (nI (kh))])), (rS, .inl (cH, nH, .inr (.inr (.inr (.inr gH)))))] s.heap := hP
  have hl := lv_entry ([.ref jS]) (n := 1) (Nat.le_of_ble_eq_true rfl)
  rw [lg_entry_eq]
  generalize (lg_sl ([.ref jS]) ++ List.replicate (1 - (lg_sl ([.ref jS])).length) Slot.unset).toArray = ls at hl ⊢
  have hl : lv_has ls 1 [(0, .ref jS)] := hl
  refine kQ (fun Q hQ => ?_)
  refine lv_aload_n hx hb dX7_size_0 rfl (lv_at hl 0 rfl) ?_
  refine va_get (D := (dC, dI)) (ci := 7) (v := .int (nI (kh))) (C := RX7) (T := TX7) (N := 2) hx hb hts (fun _ h => List.mem_cons_of_mem _ (List.mem_append_right _ h)) hown hK hP 0 rfl rfl 1 kc_l_1_2 (hts (.fieldLink RX7 9 "NotEnded$Shelf" "size" "I") (List.mem_cons_of_mem _ (List.mem_append_left _ (List.mem_of_getElem? (i := 0) rfl)))) (fun _ h9 => h9) rfl dX7_size_1 ?_
  rw [hQ]
  exact W.iret (v := nI (kh)) hx hb hr (fun t ht hW => ⟨nI (kh), rfl, rfl, ht⟩) (fun _ h => nomatch h) dX7_size_4

theorem dX7_isFull_0 : decode cX7_isFull 0 = .ok (.aload_n 0, 1) := kDs0 kf_42 (by decide +kernel)
theorem dX7_isFull_1 : decode cX7_isFull 1 = .ok (.getfield 9, 3) := kDs2 kf_180 (by decide +kernel)
theorem dX7_isFull_4 : decode cX7_isFull 4 = .ok (.aload_n 0, 1) := kDs0 kf_42 (by decide +kernel)
theorem dX7_isFull_5 : decode cX7_isFull 5 = .ok (.getfield 17, 3) := kDs2 kf_180 (by decide +kernel)
theorem dX7_isFull_8 : decode cX7_isFull 8 = .ok (.arraylength, 1) := kDs0 kf_190 (by decide +kernel)
theorem dX7_isFull_9 : decode cX7_isFull 9 = .ok (.if_icmp .lt 7, 3) := kDs4 kf_161 (by decide +kernel)
theorem dX7_isFull_16 : decode cX7_isFull 16 = .ok (.iconst 0, 1) := kDs0 kf_3 (by decide +kernel)
theorem dX7_isFull_17 : decode cX7_isFull 17 = .ok (.ireturn, 1) := kDs0 kf_172 (by decide +kernel)
theorem dX7_isFull_12 : decode cX7_isFull 12 = .ok (.iconst 1, 1) := kDs0 kf_4 (by decide +kernel)
theorem dX7_isFull_13 : decode cX7_isFull 13 = .ok (.goto 4, 3) := kDs4 kf_167 (by decide +kernel)
def w_s_isFull7 : List Cond := .code yX7_isFull cX7_isFull 1 (some .boolean) :: ([.fieldLink RX7 9 "NotEnded$Shelf" "size" "I", .fieldLink RX7 17 "NotEnded$Shelf" "rules" "[LNotEnded$Rule;"] ++ (wsX70))
theorem gw_s_isFull7 : (w_s_isFull7).all goodWord = true := kGc rfl (kGa (by decide +kernel) gw_wsX70)
theorem hd_X7_isFull : yX7_isFull.cls ≠ "java/lang/invoke/MethodHandle" ∧ yX7_isFull.cls ≠ "java/lang/invoke/VarHandle" ∧ (parseMethodDescriptor yX7_isFull.desc).map (fun d => d.parameters.length) = some 0 := by decide +kernel
set_option maxHeartbeats 4000000 in
set_option maxRecDepth 100000 in
theorem s_isFull7 (l : Launch) (dC : Nat → ClassId) (dI : Nat → Nat → Nat) (jS : Nat) (rS : Nat) (cH : ClassId) (gH : Nat → Option Nat) (kh : Nat) (nH : Nat) (hnH : nH ≤ 8) (hkh : kh ≤ nH) : Met l yX7_isFull w_s_isFull7 ({ frames := 1, cells := 0, slots := 0, locals := 60 }) (kR dC dI [.ref jS] [(jS, .inr (7, [.ref rS, .int (nI (kh))])), (rS, .inl (cH, nH, .inr (.inr (.inr (.inr gH)))))] [(cH, .object RX6)] kT) (vp_Si (fun r : Int32 => r = (if kh < nH then 0 else 1))) 0 0 (fun _ => False) := by
  refine Met.ofW (cc := cX7_isFull) (maxL := 1) (ret := (some .boolean)) (by decide) rfl ?_
  intro p e s m args below meth c s₁ B hml hv
  obtain ⟨rfl, hP, hK, hX⟩ := hv
  have hx := B.exec
  have hb := B.bytes
  have hr := B.returns
  have hts := atoms_spec (ws := w_s_isFull7) B.pre
  have hown : s.vm.findClass RX7 = some m.cls := findClass_of_methodNamed B.named
  have hlocks := B.notSynchronized
  have hP : va_P (dC, dI) vwCl [(jS, .inr (7, [.ref rS, .int (nI (kh))])), (rS, .inl (cH, nH, .inr (.inr (.inr (.inr gH)))))] s.heap := hP
  have hl := lv_entry ([.ref jS]) (n := 1) (Nat.le_of_ble_eq_true rfl)
  rw [lg_entry_eq]
  generalize (lg_sl ([.ref jS]) ++ List.replicate (1 - (lg_sl ([.ref jS])).length) Slot.unset).toArray = ls at hl ⊢
  have hl : lv_has ls 1 [(0, .ref jS)] := hl
  refine kQ (fun Q hQ => ?_)
  refine lv_aload_n hx hb dX7_isFull_0 rfl (lv_at hl 0 rfl) ?_
  refine va_get (D := (dC, dI)) (ci := 7) (v := .int (nI (kh))) (C := RX7) (T := TX7) (N := 2) hx hb hts (fun _ h => List.mem_cons_of_mem _ (List.mem_append_right _ h)) hown hK hP 0 rfl rfl 1 kc_l_1_2 (hts (.fieldLink RX7 9 "NotEnded$Shelf" "size" "I") (List.mem_cons_of_mem _ (List.mem_append_left _ (List.mem_of_getElem? (i := 0) rfl)))) (fun _ h9 => h9) rfl dX7_isFull_1 ?_
  refine lv_aload_n hx hb dX7_isFull_4 rfl (lv_at hl 0 rfl) ?_
  refine va_get (D := (dC, dI)) (ci := 7) (v := .ref rS) (C := RX7) (T := TX7) (N := 2) hx hb hts (fun _ h => List.mem_cons_of_mem _ (List.mem_append_right _ h)) hown hK hP 0 rfl rfl 0 kc_l_0_2 (hts (.fieldLink RX7 17 "NotEnded$Shelf" "rules" "[LNotEnded$Rule;") (List.mem_cons_of_mem _ (List.mem_append_left _ (List.mem_of_getElem? (i := 1) rfl)))) (fun _ h9 => h9) rfl dX7_isFull_5 ?_
  refine va_alen hx hb hK hP 1 0 rfl rfl (v := nI (nH)) rfl dX7_isFull_8 ?_
  refine lv_icmp_lt (tgt := 16) hx hb dX7_isFull_9 kc_t_9_7 (fun c_1 => ?_) (fun c_1 => ?_)
  · have bd_3 : kh < 2147483648 := by omega
    have bd_4 : nH < 2147483648 := by omega
    have hn_2 := klt (a := kh) (b := nH) bd_3 bd_4 c_1
    refine lv_iconst (v := 0) hx hb dX7_isFull_16 kc_i_0 ?_
    rw [hQ]
    exact W.zret (v := 0) hx hb hr rfl (fun t ht hW => ⟨0, rfl, (by split <;> first | rfl | omega), ht⟩) (fun _ h => nomatch h) dX7_isFull_17
  · have bd_6 : kh < 2147483648 := by omega
    have bd_7 : nH < 2147483648 := by omega
    have hn_5 := knlt (a := kh) (b := nH) bd_6 bd_7 c_1
    refine lv_iconst (v := 1) hx hb dX7_isFull_12 kc_i_1 ?_
    refine lv_goto (tgt := 17) hx hb dX7_isFull_13 kc_t_13_4 ?_
    rw [hQ]
    exact W.zret (v := 1) hx hb hr rfl (fun t ht hW => ⟨1, rfl, (by split <;> first | rfl | omega), ht⟩) (fun _ h => nomatch h) dX7_isFull_17

theorem dX7_at_0 : decode cX7_at 0 = .ok (.iload_n 1, 1) := kDs0 kf_27 (by decide +kernel)
theorem dX7_at_1 : decode cX7_at 1 = .ok (.ifCond .lt 29, 3) := kDs4 kf_155 (by decide +kernel)
theorem dX7_at_30 : decode cX7_at 30 = .ok (.aconst_null, 1) := kDs0 kf_1 (by decide +kernel)
theorem dX7_at_31 : decode cX7_at 31 = .ok (.areturn, 1) := kDs0 kf_176 (by decide +kernel)
theorem dX7_at_4 : decode cX7_at 4 = .ok (.iload_n 1, 1) := kDs0 kf_27 (by decide +kernel)
theorem dX7_at_5 : decode cX7_at 5 = .ok (.aload_n 0, 1) := kDs0 kf_42 (by decide +kernel)
theorem dX7_at_6 : decode cX7_at 6 = .ok (.getfield 9, 3) := kDs2 kf_180 (by decide +kernel)
theorem dX7_at_9 : decode cX7_at 9 = .ok (.if_icmp .ge 21, 3) := kDs4 kf_162 (by decide +kernel)
theorem dX7_at_12 : decode cX7_at 12 = .ok (.iload_n 1, 1) := kDs0 kf_27 (by decide +kernel)
theorem dX7_at_13 : decode cX7_at 13 = .ok (.aload_n 0, 1) := kDs0 kf_42 (by decide +kernel)
theorem dX7_at_14 : decode cX7_at 14 = .ok (.getfield 17, 3) := kDs2 kf_180 (by decide +kernel)
theorem dX7_at_17 : decode cX7_at 17 = .ok (.arraylength, 1) := kDs0 kf_190 (by decide +kernel)
theorem dX7_at_18 : decode cX7_at 18 = .ok (.if_icmp .ge 12, 3) := kDs4 kf_162 (by decide +kernel)
theorem dX7_at_21 : decode cX7_at 21 = .ok (.aload_n 0, 1) := kDs0 kf_42 (by decide +kernel)
theorem dX7_at_22 : decode cX7_at 22 = .ok (.getfield 17, 3) := kDs2 kf_180 (by decide +kernel)
theorem dX7_at_25 : decode cX7_at 25 = .ok (.iload_n 1, 1) := kDs0 kf_27 (by decide +kernel)
theorem dX7_at_26 : decode cX7_at 26 = .ok (.aaload, 1) := kDs0 kf_50 (by decide +kernel)
theorem dX7_at_27 : decode cX7_at 27 = .ok (.goto 4, 3) := kDs4 kf_167 (by decide +kernel)
def w_s_at7 : List Cond := .code yX7_at cX7_at 2 (some (.object "NotEnded$Rule")) :: ([.fieldLink RX7 9 "NotEnded$Shelf" "size" "I", .fieldLink RX7 17 "NotEnded$Shelf" "rules" "[LNotEnded$Rule;"] ++ (wsX70))
theorem gw_s_at7 : (w_s_at7).all goodWord = true := kGc rfl (kGa (by decide +kernel) gw_wsX70)
theorem hd_X7_at : yX7_at.cls ≠ "java/lang/invoke/MethodHandle" ∧ yX7_at.cls ≠ "java/lang/invoke/VarHandle" ∧ (parseMethodDescriptor yX7_at.desc).map (fun d => d.parameters.length) = some 1 := by decide +kernel
set_option maxHeartbeats 4000000 in
set_option maxRecDepth 100000 in
theorem s_at7 (l : Launch) (dC : Nat → ClassId) (dI : Nat → Nat → Nat) (jS : Nat) (rS : Nat) (cH : ClassId) (gH : Nat → Option Nat) (kh : Nat) (nH : Nat) (hnH : nH ≤ 8) (hkh : kh ≤ nH) (p0 : Int32) : Met l yX7_at w_s_at7 ({ frames := 1, cells := 0, slots := 0, locals := 60 }) (kR dC dI [.ref jS, .int p0] [(jS, .inr (7, [.ref rS, .int (nI (kh))])), (rS, .inl (cH, nH, .inr (.inr (.inr (.inr gH)))))] [(cH, .object RX6)] kT) (va_Sq (fun r : Option Nat => (r = none ∨ ∃ j : Nat, j < kh ∧ r = gH j))) 0 0 (fun _ => False) := by
  refine Met.ofW (cc := cX7_at) (maxL := 2) (ret := (some (.object "NotEnded$Rule"))) (by decide) rfl ?_
  intro p e s m args below meth c s₁ B hml hv
  obtain ⟨rfl, hP, hK, hX⟩ := hv
  have hx := B.exec
  have hb := B.bytes
  have hr := B.returns
  have hts := atoms_spec (ws := w_s_at7) B.pre
  have hown : s.vm.findClass RX7 = some m.cls := findClass_of_methodNamed B.named
  have hlocks := B.notSynchronized
  have hP : va_P (dC, dI) vwCl [(jS, .inr (7, [.ref rS, .int (nI (kh))])), (rS, .inl (cH, nH, .inr (.inr (.inr (.inr gH)))))] s.heap := hP
  have hl := lv_entry ([.ref jS, .int p0]) (n := 2) (Nat.le_of_ble_eq_true rfl)
  rw [lg_entry_eq]
  generalize (lg_sl ([.ref jS, .int p0]) ++ List.replicate (2 - (lg_sl ([.ref jS, .int p0])).length) Slot.unset).toArray = ls at hl ⊢
  have hl : lv_has ls 2 [(0, .ref jS), (1, .int p0)] := hl
  refine kQ (fun Q hQ => ?_)
  refine lv_iload_n hx hb dX7_at_0 rfl (lv_at hl 1 rfl) ?_
  refine lv_if_lt (tgt := 30) hx hb dX7_at_1 kc_t_1_29 (fun c_1 => ?_) (fun c_1 => ?_)
  · refine lv_null hx hb dX7_at_30 ?_
    rw [hQ]
    exact W.aret hx hb hr (Or.inl ⟨_, rfl⟩) (Or.inl rfl) (fun t ht hW => ⟨none, rfl, (Or.inl rfl), ht⟩) (fun _ h => nomatch h) dX7_at_31
  · obtain ⟨j_2, hj_2, ej_2⟩ := nI_of c_1
    subst ej_2
    refine lv_iload_n hx hb dX7_at_4 rfl (lv_at hl 1 rfl) ?_
    refine lv_aload_n hx hb dX7_at_5 rfl (lv_at hl 0 rfl) ?_
    refine va_get (D := (dC, dI)) (ci := 7) (v := .int (nI (kh))) (C := RX7) (T := TX7) (N := 2) hx hb hts (fun _ h => List.mem_cons_of_mem _ (List.mem_append_right _ h)) hown hK hP 0 rfl rfl 1 kc_l_1_2 (hts (.fieldLink RX7 9 "NotEnded$Shelf" "size" "I") (List.mem_cons_of_mem _ (List.mem_append_left _ (List.mem_of_getElem? (i := 0) rfl)))) (fun _ h9 => h9) rfl dX7_at_6 ?_
    refine lv_icmp_ge (tgt := 30) hx hb dX7_at_9 kc_t_9_21 (fun c_3 => ?_) (fun c_3 => ?_)
    · have bd_5 : kh < 2147483648 := by omega
      have bd_6 : j_2 < 2147483648 := by omega
      have hn_4 := kle (a := kh) (b := j_2) bd_5 bd_6 c_3
      refine lv_null hx hb dX7_at_30 ?_
      rw [hQ]
      exact W.aret hx hb hr (Or.inl ⟨_, rfl⟩) (Or.inl rfl) (fun t ht hW => ⟨none, rfl, (Or.inl rfl), ht⟩) (fun _ h => nomatch h) dX7_at_31
    · have bd_8 : kh < 2147483648 := by omega
      have bd_9 : j_2 < 2147483648 := by omega
      have hn_7 := knle (a := kh) (b := j_2) bd_8 bd_9 c_3
      refine lv_iload_n hx hb dX7_at_12 rfl (lv_at hl 1 rfl) ?_
      refine lv_aload_n hx hb dX7_at_13 rfl (lv_at hl 0 rfl) ?_
      refine va_get (D := (dC, dI)) (ci := 7) (v := .ref rS) (C := RX7) (T := TX7) (N := 2) hx hb hts (fun _ h => List.mem_cons_of_mem _ (List.mem_append_right _ h)) hown hK hP 0 rfl rfl 0 kc_l_0_2 (hts (.fieldLink RX7 17 "NotEnded$Shelf" "rules" "[LNotEnded$Rule;") (List.mem_cons_of_mem _ (List.mem_append_left _ (List.mem_of_getElem? (i := 1) rfl)))) (fun _ h9 => h9) rfl dX7_at_14 ?_
      refine va_alen hx hb hK hP 1 0 rfl rfl (v := nI (nH)) rfl dX7_at_17 ?_
      refine lv_icmp_ge (tgt := 30) hx hb dX7_at_18 kc_t_18_12 (fun c_10 => ?_) (fun c_10 => ?_)
      · have bd_12 : nH < 2147483648 := by omega
        have hn_11 := kle (a := nH) (b := j_2) bd_12 bd_9 c_10
        refine lv_null hx hb dX7_at_30 ?_
        rw [hQ]
        exact W.aret hx hb hr (Or.inl ⟨_, rfl⟩) (Or.inl rfl) (fun t ht hW => ⟨none, rfl, (Or.inl rfl), ht⟩) (fun _ h => nomatch h) dX7_at_31
      · have bd_14 : nH < 2147483648 := by omega
        have hn_13 := knle (a := nH) (b := j_2) bd_14 bd_9 c_10
        refine lv_aload_n hx hb dX7_at_21 rfl (lv_at hl 0 rfl) ?_
        refine va_get (D := (dC, dI)) (ci := 7) (v := .ref rS) (C := RX7) (T := TX7) (N := 2) hx hb hts (fun _ h => List.mem_cons_of_mem _ (List.mem_append_right _ h)) hown hK hP 0 rfl rfl 0 kc_l_0_2 (hts (.fieldLink RX7 17 "NotEnded$Shelf" "rules" "[LNotEnded$Rule;") (List.mem_cons_of_mem _ (List.mem_append_left _ (List.mem_of_getElem? (i := 1) rfl)))) (fun _ h9 => h9) rfl dX7_at_22 ?_
        refine lv_iload_n hx hb dX7_at_25 rfl (lv_at hl 1 rfl) ?_
        have bd_15 : j_2 < nH := by omega
        refine va_aldq hx hb hK hP 1 0 rfl rfl (vp_in_nI (n := j_2) (N := nH) bd_15 bd_14) dX7_at_26 ?_
        obtain ⟨x_16, ex_16⟩ : ∃ z9 : Option Nat, z9 = gH (Int32.toNatClampNeg (nI (j_2))) := ⟨_, rfl⟩
        rw [← ex_16]
        refine lv_goto (tgt := 31) hx hb dX7_at_27 kc_t_27_4 ?_
        rw [hQ]
        exact W.aret hx hb hr (Or.inl ⟨_, rfl⟩) (kRfv x_16) (fun t ht hW => ⟨x_16, rfl, (Or.inr ⟨j_2, by omega, by rw [ex_16, nI_clamp (by omega)]⟩), ht⟩) (fun _ h => nomatch h) dX7_at_31

def w_s_at7n : List Cond := .code yX7_at cX7_at 2 (some (.object "NotEnded$Rule")) :: ([.fieldLink RX7 9 "NotEnded$Shelf" "size" "I", .fieldLink RX7 17 "NotEnded$Shelf" "rules" "[LNotEnded$Rule;"] ++ (wsX70))
theorem gw_s_at7n : (w_s_at7n).all goodWord = true := kGc rfl (kGa (by decide +kernel) gw_wsX70)
set_option maxHeartbeats 4000000 in
set_option maxRecDepth 100000 in
theorem s_at7n (l : Launch) (dC : Nat → ClassId) (dI : Nat → Nat → Nat) (jS : Nat) (rS : Nat) (cH : ClassId) (gH : Nat → Option Nat) (kh : Nat) (nH : Nat) (hnH : nH ≤ 8) (hkh : kh ≤ nH) (pj : Nat) (hpj : pj < kh) : Met l yX7_at w_s_at7n ({ frames := 1, cells := 0, slots := 0, locals := 60 }) (kR dC dI [.ref jS, .int (nI (pj))] [(jS, .inr (7, [.ref rS, .int (nI (kh))])), (rS, .inl (cH, nH, .inr (.inr (.inr (.inr gH)))))] [(cH, .object RX6)] kT) (va_Sq (fun r : Option Nat => r = gH pj)) 0 0 (fun _ => False) := by
  refine Met.ofW (cc := cX7_at) (maxL := 2) (ret := (some (.object "NotEnded$Rule"))) (by decide) rfl ?_
  intro p e s m args below meth c s₁ B hml hv
  obtain ⟨rfl, hP, hK, hX⟩ := hv
  have hx := B.exec
  have hb := B.bytes
  have hr := B.returns
  have hts := atoms_spec (ws := w_s_at7n) B.pre
  have hown : s.vm.findClass RX7 = some m.cls := findClass_of_methodNamed B.named
  have hlocks := B.notSynchronized
  have hP : va_P (dC, dI) vwCl [(jS, .inr (7, [.ref rS, .int (nI (kh))])), (rS, .inl (cH, nH, .inr (.inr (.inr (.inr gH)))))] s.heap := hP
  have hl := lv_entry ([.ref jS, .int (nI (pj))]) (n := 2) (Nat.le_of_ble_eq_true rfl)
  rw [lg_entry_eq]
  generalize (lg_sl ([.ref jS, .int (nI (pj))]) ++ List.replicate (2 - (lg_sl ([.ref jS, .int (nI (pj))])).length) Slot.unset).toArray = ls at hl ⊢
  have hl : lv_has ls 2 [(0, .ref jS), (1, .int (nI (pj)))] := hl
  refine kQ (fun Q hQ => ?_)
  refine lv_iload_n hx hb dX7_at_0 rfl (lv_at hl 1 rfl) ?_
  have bd_1 : pj < 2147483648 := by omega
  refine lv_if_lt (tgt := 30) hx hb dX7_at_1 kc_t_1_29 (fun c_2 => absurd c_2 (nI_pos (n := pj) bd_1)) (fun c_2 => ?_)
  refine lv_iload_n hx hb dX7_at_4 rfl (lv_at hl 1 rfl) ?_
  refine lv_aload_n hx hb dX7_at_5 rfl (lv_at hl 0 rfl) ?_
  refine va_get (D := (dC, dI)) (ci := 7) (v := .int (nI (kh))) (C := RX7) (T := TX7) (N := 2) hx hb hts (fun _ h => List.mem_cons_of_mem _ (List.mem_append_right _ h)) hown hK hP 0 rfl rfl 1 kc_l_1_2 (hts (.fieldLink RX7 9 "NotEnded$Shelf" "size" "I") (List.mem_cons_of_mem _ (List.mem_append_left _ (List.mem_of_getElem? (i := 0) rfl)))) (fun _ h9 => h9) rfl dX7_at_6 ?_
  refine lv_icmp_ge (tgt := 30) hx hb dX7_at_9 kc_t_9_21 (fun c_3 => absurd c_3 (nI_ge (a := pj) (b := kh) (by omega) (by omega))) (fun c_3 => ?_)
  refine lv_iload_n hx hb dX7_at_12 rfl (lv_at hl 1 rfl) ?_
  refine lv_aload_n hx hb dX7_at_13 rfl (lv_at hl 0 rfl) ?_
  refine va_get (D := (dC, dI)) (ci := 7) (v := .ref rS) (C := RX7) (T := TX7) (N := 2) hx hb hts (fun _ h => List.mem_cons_of_mem _ (List.mem_append_right _ h)) hown hK hP 0 rfl rfl 0 kc_l_0_2 (hts (.fieldLink RX7 17 "NotEnded$Shelf" "rules" "[LNotEnded$Rule;") (List.mem_cons_of_mem _ (List.mem_append_left _ (List.mem_of_getElem? (i := 1) rfl)))) (fun _ h9 => h9) rfl dX7_at_14 ?_
  refine va_alen hx hb hK hP 1 0 rfl rfl (v := nI (nH)) rfl dX7_at_17 ?_
  refine lv_icmp_ge (tgt := 30) hx hb dX7_at_18 kc_t_18_12 (fun c_4 => absurd c_4 (nI_ge (a := pj) (b := nH) (by omega) (by omega))) (fun c_4 => ?_)
  refine lv_aload_n hx hb dX7_at_21 rfl (lv_at hl 0 rfl) ?_
  refine va_get (D := (dC, dI)) (ci := 7) (v := .ref rS) (C := RX7) (T := TX7) (N := 2) hx hb hts (fun _ h => List.mem_cons_of_mem _ (List.mem_append_right _ h)) hown hK hP 0 rfl rfl 0 kc_l_0_2 (hts (.fieldLink RX7 17 "NotEnded$Shelf" "rules" "[LNotEnded$Rule;") (List.mem_cons_of_mem _ (List.mem_append_left _ (List.mem_of_getElem? (i := 1) rfl)))) (fun _ h9 => h9) rfl dX7_at_22 ?_
  refine lv_iload_n hx hb dX7_at_25 rfl (lv_at hl 1 rfl) ?_
  have bd_5 : pj < nH := by omega
  have bd_6 : nH < 2147483648 := by omega
  refine va_aldq hx hb hK hP 1 0 rfl rfl (vp_in_nI (n := pj) (N := nH) bd_5 bd_6) dX7_at_26 ?_
  obtain ⟨x_7, ex_7⟩ : ∃ z9 : Option Nat, z9 = gH (Int32.toNatClampNeg (nI (pj))) := ⟨_, rfl⟩
  rw [← ex_7]
  refine lv_goto (tgt := 31) hx hb dX7_at_27 kc_t_27_4 ?_
  rw [hQ]
  exact W.aret hx hb hr (Or.inl ⟨_, rfl⟩) (kRfv x_7) (fun t ht hW => ⟨x_7, rfl, (by rw [ex_7, nI_clamp (by omega)]), ht⟩) (fun _ h => nomatch h) dX7_at_31

theorem dX7_put_0 : decode cX7_put 0 = .ok (.aload_n 0, 1) := kDs0 kf_42 (by decide +kernel)
theorem dX7_put_1 : decode cX7_put 1 = .ok (.invokevirtual 21, 3) := kDs2 kf_182 (by decide +kernel)
theorem dX7_put_4 : decode cX7_put 4 = .ok (.ifCond .eq 5, 3) := kDs4 kf_153 (by decide +kernel)
theorem dX7_put_9 : decode cX7_put 9 = .ok (.aload_n 0, 1) := kDs0 kf_42 (by decide +kernel)
theorem dX7_put_10 : decode cX7_put 10 = .ok (.getfield 17, 3) := kDs2 kf_180 (by decide +kernel)
theorem dX7_put_13 : decode cX7_put 13 = .ok (.aload_n 0, 1) := kDs0 kf_42 (by decide +kernel)
theorem dX7_put_14 : decode cX7_put 14 = .ok (.getfield 9, 3) := kDs2 kf_180 (by decide +kernel)
theorem dX7_put_17 : decode cX7_put 17 = .ok (.aload_n 1, 1) := kDs0 kf_43 (by decide +kernel)
theorem dX7_put_18 : decode cX7_put 18 = .ok (.aastore, 1) := kDs0 kf_83 (by decide +kernel)
theorem dX7_put_19 : decode cX7_put 19 = .ok (.aload_n 0, 1) := kDs0 kf_42 (by decide +kernel)
theorem dX7_put_20 : decode cX7_put 20 = .ok (.dup, 1) := kDs0 kf_89 (by decide +kernel)
theorem dX7_put_21 : decode cX7_put 21 = .ok (.getfield 9, 3) := kDs2 kf_180 (by decide +kernel)
theorem dX7_put_24 : decode cX7_put 24 = .ok (.iconst 1, 1) := kDs0 kf_4 (by decide +kernel)
theorem dX7_put_25 : decode cX7_put 25 = .ok (.iadd, 1) := kDs0 kf_96 (by decide +kernel)
theorem dX7_put_26 : decode cX7_put 26 = .ok (.putfield 9, 3) := kDs2 kf_181 (by decide +kernel)
theorem dX7_put_29 : decode cX7_put 29 = .ok (.aload_n 0, 1) := kDs0 kf_42 (by decide +kernel)
theorem dX7_put_30 : decode cX7_put 30 = .ok (.getfield 9, 3) := kDs2 kf_180 (by decide +kernel)
theorem dX7_put_33 : decode cX7_put 33 = .ok (.iconst 1, 1) := kDs0 kf_4 (by decide +kernel)
theorem dX7_put_34 : decode cX7_put 34 = .ok (.isub, 1) := kDs0 kf_100 (by decide +kernel)
theorem dX7_put_35 : decode cX7_put 35 = .ok (.ireturn, 1) := kDs0 kf_172 (by decide +kernel)
theorem dX7_put_7 : decode cX7_put 7 = .ok (.iconst (-1), 1) := kDs0 kf_2 (by decide +kernel)
theorem dX7_put_8 : decode cX7_put 8 = .ok (.ireturn, 1) := kDs0 kf_172 (by decide +kernel)
theorem hd_X7_put : yX7_put.cls ≠ "java/lang/invoke/MethodHandle" ∧ yX7_put.cls ≠ "java/lang/invoke/VarHandle" ∧ (parseMethodDescriptor yX7_put.desc).map (fun d => d.parameters.length) = some 1 := by decide +kernel
def w_s_at7y : List Cond := .code yX7_at cX7_at 2 (some (.object "NotEnded$Rule")) :: ([.fieldLink RX7 9 "NotEnded$Shelf" "size" "I", .fieldLink RX7 17 "NotEnded$Shelf" "rules" "[LNotEnded$Rule;"] ++ (wsX70))
theorem gw_s_at7y : (w_s_at7y).all goodWord = true := kGc rfl (kGa (by decide +kernel) gw_wsX70)
set_option maxHeartbeats 4000000 in
set_option maxRecDepth 100000 in
theorem s_at7y (l : Launch) (dC : Nat → ClassId) (dI : Nat → Nat → Nat) (jS : Nat) (rS : Nat) (cH : ClassId) (gH : Nat → Option Nat) (kh : Nat) (nH : Nat) (hnH : nH ≤ 8) (hkh : kh ≤ nH) (p0 : Int32) : Met l yX7_at w_s_at7y ({ frames := 1, cells := 0, slots := 0, locals := 60 }) (kR dC dI [.ref jS, .int p0] [(jS, .inr (7, [.ref rS, .int (nI (kh))])), (rS, .inl (cH, nH, .inr (.inr (.inr (.inr gH)))))] [(cH, .object RX6)] kT) (va_Sq (fun r : Option Nat => ((r = none ∧ kPn p0 kh = 0) ∨ (kPn p0 kh = 1 ∧ ∃ j : Nat, j < kh ∧ p0 = nI j ∧ r = gH j)))) 0 0 (fun _ => False) := by
  refine Met.ofW (cc := cX7_at) (maxL := 2) (ret := (some (.object "NotEnded$Rule"))) (by decide) rfl ?_
  intro p e s m args below meth c s₁ B hml hv
  obtain ⟨rfl, hP, hK, hX⟩ := hv
  have hx := B.exec
  have hb := B.bytes
  have hr := B.returns
  have hts := atoms_spec (ws := w_s_at7y) B.pre
  have hown : s.vm.findClass RX7 = some m.cls := findClass_of_methodNamed B.named
  have hlocks := B.notSynchronized
  have hP : va_P (dC, dI) vwCl [(jS, .inr (7, [.ref rS, .int (nI (kh))])), (rS, .inl (cH, nH, .inr (.inr (.inr (.inr gH)))))] s.heap := hP
  have hl := lv_entry ([.ref jS, .int p0]) (n := 2) (Nat.le_of_ble_eq_true rfl)
  rw [lg_entry_eq]
  generalize (lg_sl ([.ref jS, .int p0]) ++ List.replicate (2 - (lg_sl ([.ref jS, .int p0])).length) Slot.unset).toArray = ls at hl ⊢
  have hl : lv_has ls 2 [(0, .ref jS), (1, .int p0)] := hl
  refine kQ (fun Q hQ => ?_)
  refine lv_iload_n hx hb dX7_at_0 rfl (lv_at hl 1 rfl) ?_
  refine lv_if_lt (tgt := 30) hx hb dX7_at_1 kc_t_1_29 (fun c_1 => ?_) (fun c_1 => ?_)
  · refine lv_null hx hb dX7_at_30 ?_
    rw [hQ]
    exact W.aret hx hb hr (Or.inl ⟨_, rfl⟩) (Or.inl rfl) (fun t ht hW => ⟨none, rfl, (Or.inl ⟨rfl, by first | (unfold kPn; rw [if_pos c_1]; done) | (rw [kPn_nI (by omega) (by omega), if_neg (by omega)]; done) | (exfalso; omega)⟩), ht⟩) (fun _ h => nomatch h) dX7_at_31
  · obtain ⟨j_2, hj_2, ej_2⟩ := nI_of c_1
    subst ej_2
    refine lv_iload_n hx hb dX7_at_4 rfl (lv_at hl 1 rfl) ?_
    refine lv_aload_n hx hb dX7_at_5 rfl (lv_at hl 0 rfl) ?_
    refine va_get (D := (dC, dI)) (ci := 7) (v := .int (nI (kh))) (C := RX7) (T := TX7) (N := 2) hx hb hts (fun _ h => List.mem_cons_of_mem _ (List.mem_append_right _ h)) hown hK hP 0 rfl rfl 1 kc_l_1_2 (hts (.fieldLink RX7 9 "NotEnded$Shelf" "size" "I") (List.mem_cons_of_mem _ (List.mem_append_left _ (List.mem_of_getElem? (i := 0) rfl)))) (fun _ h9 => h9) rfl dX7_at_6 ?_
    refine lv_icmp_ge (tgt := 30) hx hb dX7_at_9 kc_t_9_21 (fun c_3 => ?_) (fun c_3 => ?_)
    · have bd_5 : kh < 2147483648 := by omega
      have bd_6 : j_2 < 2147483648 := by omega
      have hn_4 := kle (a := kh) (b := j_2) bd_5 bd_6 c_3
      refine lv_null hx hb dX7_at_30 ?_
      rw [hQ]
      exact W.aret hx hb hr (Or.inl ⟨_, rfl⟩) (Or.inl rfl) (fun t ht hW => ⟨none, rfl, (Or.inl ⟨rfl, by first | (unfold kPn; rw [if_pos c_1]; done) | (rw [kPn_nI (by omega) (by omega), if_neg (by omega)]; done) | (exfalso; omega)⟩), ht⟩) (fun _ h => nomatch h) dX7_at_31
    · have bd_8 : kh < 2147483648 := by omega
      have bd_9 : j_2 < 2147483648 := by omega
      have hn_7 := knle (a := kh) (b := j_2) bd_8 bd_9 c_3
      refine lv_iload_n hx hb dX7_at_12 rfl (lv_at hl 1 rfl) ?_
      refine lv_aload_n hx hb dX7_at_13 rfl (lv_at hl 0 rfl) ?_
      refine va_get (D := (dC, dI)) (ci := 7) (v := .ref rS) (C := RX7) (T := TX7) (N := 2) hx hb hts (fun _ h => List.mem_cons_of_mem _ (List.mem_append_right _ h)) hown hK hP 0 rfl rfl 0 kc_l_0_2 (hts (.fieldLink RX7 17 "NotEnded$Shelf" "rules" "[LNotEnded$Rule;") (List.mem_cons_of_mem _ (List.mem_append_left _ (List.mem_of_getElem? (i := 1) rfl)))) (fun _ h9 => h9) rfl dX7_at_14 ?_
      refine va_alen hx hb hK hP 1 0 rfl rfl (v := nI (nH)) rfl dX7_at_17 ?_
      refine lv_icmp_ge (tgt := 30) hx hb dX7_at_18 kc_t_18_12 (fun c_10 => ?_) (fun c_10 => ?_)
      · have bd_12 : nH < 2147483648 := by omega
        have hn_11 := kle (a := nH) (b := j_2) bd_12 bd_9 c_10
        refine lv_null hx hb dX7_at_30 ?_
        rw [hQ]
        exact W.aret hx hb hr (Or.inl ⟨_, rfl⟩) (Or.inl rfl) (fun t ht hW => ⟨none, rfl, (Or.inl ⟨rfl, by first | (unfold kPn; rw [if_pos c_1]; done) | (rw [kPn_nI (by omega) (by omega), if_neg (by omega)]; done) | (exfalso; omega)⟩), ht⟩) (fun _ h => nomatch h) dX7_at_31
      · have bd_14 : nH < 2147483648 := by omega
        have hn_13 := knle (a := nH) (b := j_2) bd_14 bd_9 c_10
        refine lv_aload_n hx hb dX7_at_21 rfl (lv_at hl 0 rfl) ?_
        refine va_get (D := (dC, dI)) (ci := 7) (v := .ref rS) (C := RX7) (T := TX7) (N := 2) hx hb hts (fun _ h => List.mem_cons_of_mem _ (List.mem_append_right _ h)) hown hK hP 0 rfl rfl 0 kc_l_0_2 (hts (.fieldLink RX7 17 "NotEnded$Shelf" "rules" "[LNotEnded$Rule;") (List.mem_cons_of_mem _ (List.mem_append_left _ (List.mem_of_getElem? (i := 1) rfl)))) (fun _ h9 => h9) rfl dX7_at_22 ?_
        refine lv_iload_n hx hb dX7_at_25 rfl (lv_at hl 1 rfl) ?_
        have bd_15 : j_2 < nH := by omega
        refine va_aldq hx hb hK hP 1 0 rfl rfl (vp_in_nI (n := j_2) (N := nH) bd_15 bd_14) dX7_at_26 ?_
        obtain ⟨x_16, ex_16⟩ : ∃ z9 : Option Nat, z9 = gH (Int32.toNatClampNeg (nI (j_2))) := ⟨_, rfl⟩
        rw [← ex_16]
        refine lv_goto (tgt := 31) hx hb dX7_at_27 kc_t_27_4 ?_
        rw [hQ]
        exact W.aret hx hb hr (Or.inl ⟨_, rfl⟩) (kRfv x_16) (fun t ht hW => ⟨x_16, rfl, (Or.inr ⟨by rw [kPn_nI (by omega) (by omega), if_pos (by omega)], j_2, by omega, rfl, by rw [ex_16, nI_clamp (by omega)]⟩), ht⟩) (fun _ h => nomatch h) dX7_at_31

def w_s_has2x : List Cond := .code yX2_has cX2_has 2 (some .boolean) :: ([.fieldLink RX2 31 "NotEnded$Folk" "size" "I"] ++ (wsX20))
theorem gw_s_has2x : (w_s_has2x).all goodWord = true := kGc rfl (kGa (by decide +kernel) gw_wsX20)
set_option maxHeartbeats 4000000 in
set_option maxRecDepth 100000 in
theorem s_has2x (l : Launch) (dC : Nat → ClassId) (dI : Nat → Nat → Nat) (hF : Nat) (f0 : Nat) (f1 : Nat) (f2 : Nat) (f3 : Nat) (f4 : Nat) (z0 : ClassId) (z1 : ClassId) (z2 : ClassId) (z3 : ClassId) (z4 : ClassId) (g0 : Nat → Int32) (g1 : Nat → Int32) (g2 : Nat → Int32) (g3 : Nat → Int32) (g4 : Nat → Int32) (sn : Int32) (ks : Nat) (kw : Nat) (hks : ks ≤ 10) (hkw : kw ≤ 4) (p0 : Int32) : Met l yX2_has w_s_has2x ({ frames := 1, cells := 0, slots := 0, locals := 60 }) (kR dC dI [.ref hF, .int p0] [(hF, .inr (2, [.ref f0, .ref f1, .ref f2, .ref f3, .ref f4, .int sn, .int (nI (ks)), .int (nI (kw))])), (f0, .inl (z0, 10, .inl g0)), (f1, .inl (z1, 10, .inl g1)), (f2, .inl (z2, 10, .inl g2)), (f3, .inl (z3, 10, .inl g3)), (f4, .inl (z4, 4, .inl g4))] [(z0, .int), (z1, .int), (z2, .int), (z3, .int), (z4, .int)] kT) (vp_Si (fun r : Int32 => ((¬ r = 0 → ∃ j : Nat, j < ks ∧ p0 = nI j) ∧ r = kPn p0 ks))) 0 0 (fun _ => False) := by
  refine Met.ofW (cc := cX2_has) (maxL := 2) (ret := (some .boolean)) (by decide) rfl ?_
  intro p e s m args below meth c s₁ B hml hv
  obtain ⟨rfl, hP, hK, hX⟩ := hv
  have hx := B.exec
  have hb := B.bytes
  have hr := B.returns
  have hts := atoms_spec (ws := w_s_has2x) B.pre
  have hown : s.vm.findClass RX2 = some m.cls := findClass_of_methodNamed B.named
  have hlocks := B.notSynchronized
  have hP : va_P (dC, dI) vwCl [(hF, .inr (2, [.ref f0, .ref f1, .ref f2, .ref f3, .ref f4, .int sn, .int (nI (ks)), .int (nI (kw))])), (f0, .inl (z0, 10, .inl g0)), (f1, .inl (z1, 10, .inl g1)), (f2, .inl (z2, 10, .inl g2)), (f3, .inl (z3, 10, .inl g3)), (f4, .inl (z4, 4, .inl g4))] s.heap := hP
  have hl := lv_entry ([.ref hF, .int p0]) (n := 2) (Nat.le_of_ble_eq_true rfl)
  rw [lg_entry_eq]
  generalize (lg_sl ([.ref hF, .int p0]) ++ List.replicate (2 - (lg_sl ([.ref hF, .int p0])).length) Slot.unset).toArray = ls at hl ⊢
  have hl : lv_has ls 2 [(0, .ref hF), (1, .int p0)] := hl
  refine kQ (fun Q hQ => ?_)
  refine lv_iload_n hx hb dX2_has_0 rfl (lv_at hl 1 rfl) ?_
  refine lv_if_lt (tgt := 22) hx hb dX2_has_1 kc_t_1_21 (fun c_1 => ?_) (fun c_1 => ?_)
  · refine lv_iconst (v := 0) hx hb dX2_has_22 kc_i_0 ?_
    rw [hQ]
    exact W.zret (v := 0) hx hb hr rfl (fun t ht hW => ⟨0, rfl, ⟨(fun z => absurd rfl z), (by first | (rw [kPn_nI (by omega) (by omega)]; first | exact (if_pos (by omega)).symm | exact (if_neg (by omega)).symm | (exfalso; omega)) | (unfold kPn; rw [if_pos c_1]))⟩, ht⟩) (fun _ h => nomatch h) dX2_has_23
  · obtain ⟨j_2, hj_2, ej_2⟩ := nI_of c_1
    subst ej_2
    refine lv_iload_n hx hb dX2_has_4 rfl (lv_at hl 1 rfl) ?_
    refine lv_aload_n hx hb dX2_has_5 rfl (lv_at hl 0 rfl) ?_
    refine va_get (D := (dC, dI)) (ci := 2) (v := .int (nI (ks))) (C := RX2) (T := TX2) (N := 8) hx hb hts (fun _ h => List.mem_cons_of_mem _ (List.mem_append_right _ h)) hown hK hP 0 rfl rfl 6 kc_l_6_8 (hts (.fieldLink RX2 31 "NotEnded$Folk" "size" "I") (List.mem_cons_of_mem _ (List.mem_append_left _ (List.mem_of_getElem? (i := 0) rfl)))) (fun _ h9 => h9) rfl dX2_has_6 ?_
    refine lv_icmp_ge (tgt := 22) hx hb dX2_has_9 kc_t_9_13 (fun c_3 => ?_) (fun c_3 => ?_)
    · have bd_5 : ks < 2147483648 := by omega
      have bd_6 : j_2 < 2147483648 := by omega
      have hn_4 := kle (a := ks) (b := j_2) bd_5 bd_6 c_3
      refine lv_iconst (v := 0) hx hb dX2_has_22 kc_i_0 ?_
      rw [hQ]
      exact W.zret (v := 0) hx hb hr rfl (fun t ht hW => ⟨0, rfl, ⟨(fun z => absurd rfl z), (by first | (rw [kPn_nI (by omega) (by omega)]; first | exact (if_pos (by omega)).symm | exact (if_neg (by omega)).symm | (exfalso; omega)) | (unfold kPn; rw [if_pos c_1]))⟩, ht⟩) (fun _ h => nomatch h) dX2_has_23
    · have bd_8 : ks < 2147483648 := by omega
      have bd_9 : j_2 < 2147483648 := by omega
      have hn_7 := knle (a := ks) (b := j_2) bd_8 bd_9 c_3
      refine lv_iload_n hx hb dX2_has_12 rfl (lv_at hl 1 rfl) ?_
      refine lv_bipush (v := 10) hx hb dX2_has_13 kc_b_10 ?_
      refine lv_icmp_ge (tgt := 22) hx hb dX2_has_15 kc_t_15_7 (fun c_10 => ?_) (fun c_10 => ?_)
      · have hn_11 := kle (a := 10) (b := j_2) kc_31_10 bd_9 c_10
        refine lv_iconst (v := 0) hx hb dX2_has_22 kc_i_0 ?_
        rw [hQ]
        exact W.zret (v := 0) hx hb hr rfl (fun t ht hW => ⟨0, rfl, ⟨(fun z => absurd rfl z), (by first | (rw [kPn_nI (by omega) (by omega)]; first | exact (if_pos (by omega)).symm | exact (if_neg (by omega)).symm | (exfalso; omega)) | (unfold kPn; rw [if_pos c_1]))⟩, ht⟩) (fun _ h => nomatch h) dX2_has_23
      · have hn_12 := knle (a := 10) (b := j_2) kc_31_10 bd_9 c_10
        refine lv_iconst (v := 1) hx hb dX2_has_18 kc_i_1 ?_
        refine lv_goto (tgt := 23) hx hb dX2_has_19 kc_t_19_4 ?_
        rw [hQ]
        exact W.zret (v := 1) hx hb hr rfl (fun t ht hW => ⟨1, rfl, ⟨(fun _ => ⟨_, by omega, rfl⟩), (by first | (rw [kPn_nI (by omega) (by omega)]; first | exact (if_pos (by omega)).symm | exact (if_neg (by omega)).symm | (exfalso; omega)) | (unfold kPn; rw [if_pos c_1]))⟩, ht⟩) (fun _ h => nomatch h) dX2_has_23

def w_s_isHouse9x : List Cond := .code yX9_isHouse cX9_isHouse 1 (some .boolean) :: ([.initialized RX9, .static yX9_isIn, .methodLink RX9 117 yX9_isIn] ++ (w_s_isIn9))
theorem gw_s_isHouse9x : (w_s_isHouse9x).all goodWord = true := kGc rfl (kGa (by decide +kernel) gw_s_isIn9)
set_option maxHeartbeats 4000000 in
set_option maxRecDepth 100000 in
theorem s_isHouse9x (l : Launch) (dC : Nat → ClassId) (dI : Nat → Nat → Nat) (p0 : Int32) : Met l yX9_isHouse w_s_isHouse9x ({ frames := 2, cells := 0, slots := 0, locals := 120 }) (kR dC dI [.int p0] [] [] kT) (vp_Si (fun r : Int32 => r = kIn p0 0 3)) 0 0 (fun _ => False) := by
  refine Met.ofW (cc := cX9_isHouse) (maxL := 1) (ret := (some .boolean)) (by decide) rfl ?_
  intro p e s m args below meth c s₁ B hml hv
  obtain ⟨rfl, hP, hK, hX⟩ := hv
  have hx := B.exec
  have hb := B.bytes
  have hr := B.returns
  have hts := atoms_spec (ws := w_s_isHouse9x) B.pre
  have hown : s.vm.findClass RX9 = some m.cls := findClass_of_methodNamed B.named
  have hlocks := B.notSynchronized
  have hP : va_P (dC, dI) vwCl [] s.heap := hP
  have hl := lv_entry ([.int p0]) (n := 1) (Nat.le_of_ble_eq_true rfl)
  rw [lg_entry_eq]
  generalize (lg_sl ([.int p0]) ++ List.replicate (1 - (lg_sl ([.int p0])).length) Slot.unset).toArray = ls at hl ⊢
  have hl : lv_has ls 1 [(0, .int p0)] := hl
  refine kQ (fun Q hQ => ?_)
  refine lv_iload_n hx hb dX9_isHouse_0 rfl (lv_at hl 0 rfl) ?_
  refine lv_iconst (v := 0) hx hb dX9_isHouse_1 kc_i_0 ?_
  refine lv_iconst (v := 3) hx hb dX9_isHouse_2 kc_i_3 ?_
  have hPc := hP.sb (ws2 := []) [] rfl
  have hKc := hK.sb (tys2 := []) [] rfl
  refine vp_callSi (va_runS (As := [.int p0, .int 0, .int 3]) (rest := []) ⟨hx, hb, hml, hown, hts⟩ (s_isIn9 l dC dI p0 0 3) (va_cwS 3 hts (kG (List.forall_mem_cons.mpr ⟨(List.mem_cons_of_mem _ (List.mem_append_left _ (List.mem_of_getElem? (i := 2) rfl))), (List.forall_mem_cons.mpr ⟨(List.mem_cons_of_mem _ (List.mem_append_left _ (List.mem_of_getElem? (i := 1) rfl))), (List.forall_mem_cons.mpr ⟨(List.mem_cons_of_mem _ (List.mem_append_left _ (List.mem_of_getElem? (i := 0) rfl))), (fun _ h => absurd h List.not_mem_nil)⟩)⟩)⟩) (kGS _ _ _) (fun _ h => List.mem_cons_of_mem _ (List.mem_append_right _ h)) gw_s_isIn9) rfl rfl rfl hd_X9_isIn ⟨(Nat.le_of_ble_eq_true rfl), (Nat.le_of_ble_eq_true rfl)⟩) (kR_S kT_blind kT_give hPc hKc) rfl rfl hl.1 rfl (lv_room (Nat.le_of_ble_eq_true rfl)) dX9_isHouse_3 ⟨(Nat.le_of_ble_eq_true rfl), (Nat.le_of_ble_eq_true rfl)⟩).run (fun r_1 hw => ?_)
  have hw_2 := hw
  rw [hQ]
  exact W.zret (v := r_1) hx hb hr (by rw [hw_2]; exact kIn_nar _ _ _) (fun t ht hW => ⟨r_1, rfl, hw_2, ht⟩) (fun _ h => nomatch h) dX9_isHouse_6

def w_s_addPerson2x : List Cond := .code yX2_addPerson cX2_addPerson 5 (some .int) :: ([.fieldLink RX2 31 "NotEnded$Folk" "size" "I", .fieldLink RX2 9 "NotEnded$Folk" "holds" "[I", .fieldLink RX2 15 "NotEnded$Folk" "putIn" "[I", .fieldLink RX2 18 "NotEnded$Folk" "houses" "[I", .fieldLink RX2 27 "NotEnded$Folk" "sent" "I"] ++ (wsX20))
theorem gw_s_addPerson2x : (w_s_addPerson2x).all goodWord = true := kGc rfl (kGa (by decide +kernel) gw_wsX20)
set_option maxHeartbeats 4000000 in
set_option maxRecDepth 100000 in
theorem s_addPerson2x (l : Launch) (dC : Nat → ClassId) (dI : Nat → Nat → Nat) (hF : Nat) (f0 : Nat) (f1 : Nat) (f2 : Nat) (f3 : Nat) (f4 : Nat) (z0 : ClassId) (z1 : ClassId) (z2 : ClassId) (z3 : ClassId) (z4 : ClassId) (g0 : Nat → Int32) (g1 : Nat → Int32) (g2 : Nat → Int32) (g3 : Nat → Int32) (g4 : Nat → Int32) (ks : Nat) (kw : Nat) (hks : ks ≤ 10) (hkw : kw ≤ 4) (sv : Nat) (hsv : sv < 1024) (p0 : Int32) (p1 : Int32) (p2 : Int32) (p3 : Int32) (sz : Nat) : Met l yX2_addPerson w_s_addPerson2x ({ frames := 1, cells := 0, slots := 0, locals := 60 }) (kW dC dI [.ref hF, .int p0, .int p1, .int p2, .int p3] [(hF, .inr (2, [.ref f0, .ref f1, .ref f2, .ref f3, .ref f4, .int (nI (sv)), .int (nI (ks)), .int (nI (kw))])), (f0, .inl (z0, 10, .inl g0)), (f1, .inl (z1, 10, .inl g1)), (f2, .inl (z2, 10, .inl g2)), (f3, .inl (z3, 10, .inl g3)), (f4, .inl (z4, 4, .inl g4))] [(z0, .int), (z1, .int), (z2, .int), (z3, .int), (z4, .int)] kT sz) (va_Qi (fun (r : Int32) (u : (Nat → Int32) × (Nat → Int32) × (Nat → Int32) × Nat × Nat) => match u with | (n0, n1, n2, sn1, ks1) => (r = (if ks < 10 then nI ks else -1) ∧ ks1 = (if ks < 10 then ks + 1 else ks) ∧ sn1 < 1024 ∧ sn1 = (if ks < 10 then (if p3 = 0 then sv else sv ||| 2 ^ ks) else sv) ∧ n0 = (if ks < 10 then upd g0 ks p0 else g0) ∧ n1 = (if ks < 10 then upd g1 ks p1 else g1) ∧ n2 = (if ks < 10 then upd g2 ks p2 else g2))) (fun (u : (Nat → Int32) × (Nat → Int32) × (Nat → Int32) × Nat × Nat) => match u with | (n0, n1, n2, sn1, ks1) => fun t : State => kB dC dI [(hF, .inr (2, [.ref f0, .ref f1, .ref f2, .ref f3, .ref f4, .int (nI (sn1)), .int (nI (ks1)), .int (nI (kw))])), (f0, .inl (z0, 10, .inl n0)), (f1, .inl (z1, 10, .inl n1)), (f2, .inl (z2, 10, .inl n2)), (f3, .inl (z3, 10, .inl g3)), (f4, .inl (z4, 4, .inl g4))] [(z0, .int), (z1, .int), (z2, .int), (z3, .int), (z4, .int)] (va_A [(hF, .inr (2, [.ref f0, .ref f1, .ref f2, .ref f3, .ref f4, .int (nI (sv)), .int (nI (ks)), .int (nI (kw))])), (f0, .inl (z0, 10, .inl g0)), (f1, .inl (z1, 10, .inl g1)), (f2, .inl (z2, 10, .inl g2)), (f3, .inl (z3, 10, .inl g3)), (f4, .inl (z4, 4, .inl g4))] sz) t) (va_A [(hF, .inr (2, [.ref f0, .ref f1, .ref f2, .ref f3, .ref f4, .int (nI (sv)), .int (nI (ks)), .int (nI (kw))])), (f0, .inl (z0, 10, .inl g0)), (f1, .inl (z1, 10, .inl g1)), (f2, .inl (z2, 10, .inl g2)), (f3, .inl (z3, 10, .inl g3)), (f4, .inl (z4, 4, .inl g4))] sz)) 0 0 (va_A [(hF, .inr (2, [.ref f0, .ref f1, .ref f2, .ref f3, .ref f4, .int (nI (sv)), .int (nI (ks)), .int (nI (kw))])), (f0, .inl (z0, 10, .inl g0)), (f1, .inl (z1, 10, .inl g1)), (f2, .inl (z2, 10, .inl g2)), (f3, .inl (z3, 10, .inl g3)), (f4, .inl (z4, 4, .inl g4))] sz) := by
  refine Met.ofW (cc := cX2_addPerson) (maxL := 5) (ret := (some .int)) (by decide) rfl ?_
  intro p e s m args below meth c s₁ B hml hv
  obtain ⟨rfl, hsz, hP, hK, hD0, hX⟩ := hv
  have hx := B.exec
  have hb := B.bytes
  have hr := B.returns
  have hts := atoms_spec (ws := w_s_addPerson2x) B.pre
  have hown : s.vm.findClass RX2 = some m.cls := findClass_of_methodNamed B.named
  have hlocks := B.notSynchronized
  subst hsz
  have hD := hD0.self (sz := s.heap.size)
  generalize hAe : va_A [(hF, .inr (2, [.ref f0, .ref f1, .ref f2, .ref f3, .ref f4, .int (nI (sv)), .int (nI (ks)), .int (nI (kw))])), (f0, .inl (z0, 10, .inl g0)), (f1, .inl (z1, 10, .inl g1)), (f2, .inl (z2, 10, .inl g2)), (f3, .inl (z3, 10, .inl g3)), (f4, .inl (z4, 4, .inl g4))] s.heap.size = A at hD ⊢
  have hA : ∀ q : Nat, s.heap.size ≤ q → A q := fun q h => by rw [← hAe]; exact Or.inr h
  have hS : va_S A s.heap s.heap [] := va_S.rf
  have hP : va_P (dC, dI) vwCl [(hF, .inr (2, [.ref f0, .ref f1, .ref f2, .ref f3, .ref f4, .int (nI (sv)), .int (nI (ks)), .int (nI (kw))])), (f0, .inl (z0, 10, .inl g0)), (f1, .inl (z1, 10, .inl g1)), (f2, .inl (z2, 10, .inl g2)), (f3, .inl (z3, 10, .inl g3)), (f4, .inl (z4, 4, .inl g4))] s.heap := hP
  have hl := lv_entry ([.ref hF, .int p0, .int p1, .int p2, .int p3]) (n := 5) (Nat.le_of_ble_eq_true rfl)
  rw [lg_entry_eq]
  generalize (lg_sl ([.ref hF, .int p0, .int p1, .int p2, .int p3]) ++ List.replicate (5 - (lg_sl ([.ref hF, .int p0, .int p1, .int p2, .int p3])).length) Slot.unset).toArray = ls at hl ⊢
  have hl : lv_has ls 5 [(0, .ref hF), (1, .int p0), (2, .int p1), (3, .int p2), (4, .int p3)] := hl
  refine kQ (fun Q hQ => ?_)
  refine lv_aload_n hx hb dX2_addPerson_0 rfl (lv_at hl 0 rfl) ?_
  refine va_get (D := (dC, dI)) (ci := 2) (v := .int (nI (ks))) (C := RX2) (T := TX2) (N := 8) hx hb hts (fun _ h => List.mem_cons_of_mem _ (List.mem_append_right _ h)) hown hK hP 0 rfl rfl 6 kc_l_6_8 (hts (.fieldLink RX2 31 "NotEnded$Folk" "size" "I") (List.mem_cons_of_mem _ (List.mem_append_left _ (List.mem_of_getElem? (i := 0) rfl)))) (fun _ h9 => h9) rfl dX2_addPerson_1 ?_
  refine lv_bipush (v := 10) hx hb dX2_addPerson_4 kc_b_10 ?_
  refine lv_icmp_lt (tgt := 11) hx hb dX2_addPerson_6 kc_t_6_5 (fun c_1 => ?_) (fun c_1 => ?_)
  · have bd_3 : ks < 2147483648 := by omega
    have hn_2 := klt (a := ks) (b := 10) bd_3 kc_31_10 c_1
    refine lv_aload_n hx hb dX2_addPerson_11 rfl (lv_at hl 0 rfl) ?_
    refine va_get (D := (dC, dI)) (ci := 2) (v := .ref f0) (C := RX2) (T := TX2) (N := 8) hx hb hts (fun _ h => List.mem_cons_of_mem _ (List.mem_append_right _ h)) hown hK hP 0 rfl rfl 0 kc_l_0_8 (hts (.fieldLink RX2 9 "NotEnded$Folk" "holds" "[I") (List.mem_cons_of_mem _ (List.mem_append_left _ (List.mem_of_getElem? (i := 1) rfl)))) (fun _ h9 => h9) rfl dX2_addPerson_12 ?_
    refine lv_aload_n hx hb dX2_addPerson_15 rfl (lv_at hl 0 rfl) ?_
    refine va_get (D := (dC, dI)) (ci := 2) (v := .int (nI (ks))) (C := RX2) (T := TX2) (N := 8) hx hb hts (fun _ h => List.mem_cons_of_mem _ (List.mem_append_right _ h)) hown hK hP 0 rfl rfl 6 kc_l_6_8 (hts (.fieldLink RX2 31 "NotEnded$Folk" "size" "I") (List.mem_cons_of_mem _ (List.mem_append_left _ (List.mem_of_getElem? (i := 0) rfl)))) (fun _ h9 => h9) rfl dX2_addPerson_16 ?_
    refine lv_iload_n hx hb dX2_addPerson_19 rfl (lv_at hl 1 rfl) ?_
    have bd_5 : ks < 10 := by omega
    refine va_iast hx hb hK hP hD hS 1 0 rfl rfl (vp_in_nI (n := ks) (N := 10) bd_5 kc_31_10) dX2_addPerson_20 (fun H locs hP hD hS => ?_)
    obtain ⟨f_4, ef_4⟩ : ∃ gg9 : Nat → Int32, gg9 = upd g0 (Int32.toNatClampNeg (nI (ks))) p0 := ⟨_, rfl⟩
    have hPD : kPD dC dI A [(hF, .inr (2, [.ref f0, .ref f1, .ref f2, .ref f3, .ref f4, .int (nI (sv)), .int (nI (ks)), .int (nI (kw))])), (f0, .inl (z0, 10, .inl f_4)), (f1, .inl (z1, 10, .inl g1)), (f2, .inl (z2, 10, .inl g2)), (f3, .inl (z3, 10, .inl g3)), (f4, .inl (z4, 4, .inl g4))] H := by rw [ef_4]; exact ⟨hP, hD⟩
    have hP := hPD.1
    have hD := hPD.2
    refine lv_aload_n hx hb dX2_addPerson_21 rfl (lv_at hl 0 rfl) ?_
    refine va_get (D := (dC, dI)) (ci := 2) (v := .ref f1) (C := RX2) (T := TX2) (N := 8) hx hb hts (fun _ h => List.mem_cons_of_mem _ (List.mem_append_right _ h)) hown hK hP 0 rfl rfl 1 kc_l_1_8 (hts (.fieldLink RX2 15 "NotEnded$Folk" "putIn" "[I") (List.mem_cons_of_mem _ (List.mem_append_left _ (List.mem_of_getElem? (i := 2) rfl)))) (fun _ h9 => h9) rfl dX2_addPerson_22 ?_
    refine lv_aload_n hx hb dX2_addPerson_25 rfl (lv_at hl 0 rfl) ?_
    refine va_get (D := (dC, dI)) (ci := 2) (v := .int (nI (ks))) (C := RX2) (T := TX2) (N := 8) hx hb hts (fun _ h => List.mem_cons_of_mem _ (List.mem_append_right _ h)) hown hK hP 0 rfl rfl 6 kc_l_6_8 (hts (.fieldLink RX2 31 "NotEnded$Folk" "size" "I") (List.mem_cons_of_mem _ (List.mem_append_left _ (List.mem_of_getElem? (i := 0) rfl)))) (fun _ h9 => h9) rfl dX2_addPerson_26 ?_
    refine lv_iload_n hx hb dX2_addPerson_29 rfl (lv_at hl 2 rfl) ?_
    refine va_iast hx hb hK hP hD hS 2 1 rfl rfl (vp_in_nI (n := ks) (N := 10) bd_5 kc_31_10) dX2_addPerson_30 (fun H locs hP hD hS => ?_)
    obtain ⟨f_6, ef_6⟩ : ∃ gg9 : Nat → Int32, gg9 = upd g1 (Int32.toNatClampNeg (nI (ks))) p1 := ⟨_, rfl⟩
    have hPD : kPD dC dI A [(hF, .inr (2, [.ref f0, .ref f1, .ref f2, .ref f3, .ref f4, .int (nI (sv)), .int (nI (ks)), .int (nI (kw))])), (f0, .inl (z0, 10, .inl f_4)), (f1, .inl (z1, 10, .inl f_6)), (f2, .inl (z2, 10, .inl g2)), (f3, .inl (z3, 10, .inl g3)), (f4, .inl (z4, 4, .inl g4))] H := by rw [ef_6]; exact ⟨hP, hD⟩
    have hP := hPD.1
    have hD := hPD.2
    refine lv_aload_n hx hb dX2_addPerson_31 rfl (lv_at hl 0 rfl) ?_
    refine va_get (D := (dC, dI)) (ci := 2) (v := .ref f2) (C := RX2) (T := TX2) (N := 8) hx hb hts (fun _ h => List.mem_cons_of_mem _ (List.mem_append_right _ h)) hown hK hP 0 rfl rfl 2 kc_l_2_8 (hts (.fieldLink RX2 18 "NotEnded$Folk" "houses" "[I") (List.mem_cons_of_mem _ (List.mem_append_left _ (List.mem_of_getElem? (i := 3) rfl)))) (fun _ h9 => h9) rfl dX2_addPerson_32 ?_
    refine lv_aload_n hx hb dX2_addPerson_35 rfl (lv_at hl 0 rfl) ?_
    refine va_get (D := (dC, dI)) (ci := 2) (v := .int (nI (ks))) (C := RX2) (T := TX2) (N := 8) hx hb hts (fun _ h => List.mem_cons_of_mem _ (List.mem_append_right _ h)) hown hK hP 0 rfl rfl 6 kc_l_6_8 (hts (.fieldLink RX2 31 "NotEnded$Folk" "size" "I") (List.mem_cons_of_mem _ (List.mem_append_left _ (List.mem_of_getElem? (i := 0) rfl)))) (fun _ h9 => h9) rfl dX2_addPerson_36 ?_
    refine lv_iload_n hx hb dX2_addPerson_39 rfl (lv_at hl 3 rfl) ?_
    refine va_iast hx hb hK hP hD hS 3 2 rfl rfl (vp_in_nI (n := ks) (N := 10) bd_5 kc_31_10) dX2_addPerson_40 (fun H locs hP hD hS => ?_)
    obtain ⟨f_7, ef_7⟩ : ∃ gg9 : Nat → Int32, gg9 = upd g2 (Int32.toNatClampNeg (nI (ks))) p2 := ⟨_, rfl⟩
    have hPD : kPD dC dI A [(hF, .inr (2, [.ref f0, .ref f1, .ref f2, .ref f3, .ref f4, .int (nI (sv)), .int (nI (ks)), .int (nI (kw))])), (f0, .inl (z0, 10, .inl f_4)), (f1, .inl (z1, 10, .inl f_6)), (f2, .inl (z2, 10, .inl f_7)), (f3, .inl (z3, 10, .inl g3)), (f4, .inl (z4, 4, .inl g4))] H := by rw [ef_7]; exact ⟨hP, hD⟩
    have hP := hPD.1
    have hD := hPD.2
    refine lv_iload hx hb dX2_addPerson_41 (lv_at hl 4 rfl) ?_
    refine lv_if_eq (tgt := 61) hx hb dX2_addPerson_43 kc_t_43_18 (fun c_8 => ?_) (fun c_8 => ?_)
    · refine lv_aload_n hx hb dX2_addPerson_61 rfl (lv_at hl 0 rfl) ?_
      refine lv_dup hx hb dX2_addPerson_62 rfl ?_
      refine va_get (D := (dC, dI)) (ci := 2) (v := .int (nI (ks))) (C := RX2) (T := TX2) (N := 8) hx hb hts (fun _ h => List.mem_cons_of_mem _ (List.mem_append_right _ h)) hown hK hP 0 rfl rfl 6 kc_l_6_8 (hts (.fieldLink RX2 31 "NotEnded$Folk" "size" "I") (List.mem_cons_of_mem _ (List.mem_append_left _ (List.mem_of_getElem? (i := 0) rfl)))) (fun _ h9 => h9) rfl dX2_addPerson_63 ?_
      refine lv_iconst (v := 1) hx hb dX2_addPerson_66 kc_i_1 ?_
      refine lv_iadd hx hb dX2_addPerson_67 ?_
      refine lv_topi (fun y_9 ey_9 => ?_)
      obtain rfl : y_9 = nI (ks + 1) := ey_9.trans (nI_add (ks) (1))
      refine va_put (D := (dC, dI)) (ci := 2) (v := .int (nI (ks + 1))) (ty := tyX2 6) (C := RX2) (T := TX2) (N := 8) hx hb hts (fun _ h => List.mem_cons_of_mem _ (List.mem_append_right _ h)) tyX2 tyX2_ok nmX2 hown hK hP hD hS 0 rfl rfl 6 kc_l_6_8 (hts (.fieldLink RX2 31 "NotEnded$Folk" "size" "I") (List.mem_cons_of_mem _ (List.mem_append_left _ (List.mem_of_getElem? (i := 0) rfl)))) (fun _ h9 => h9) rfl (tyX2_ok 6 kc_l_6_8) rfl rfl (Nat.le_of_ble_eq_true rfl) dX2_addPerson_68 (fun H locs hP hD hS => ?_)
      have hPD : kPD dC dI A [(hF, .inr (2, [.ref f0, .ref f1, .ref f2, .ref f3, .ref f4, .int (nI (sv)), .int (nI (ks + 1)), .int (nI (kw))])), (f0, .inl (z0, 10, .inl f_4)), (f1, .inl (z1, 10, .inl f_6)), (f2, .inl (z2, 10, .inl f_7)), (f3, .inl (z3, 10, .inl g3)), (f4, .inl (z4, 4, .inl g4))] H := ⟨hP, hD⟩
      have hP := hPD.1
      have hD := hPD.2
      refine lv_aload_n hx hb dX2_addPerson_71 rfl (lv_at hl 0 rfl) ?_
      refine va_get (D := (dC, dI)) (ci := 2) (v := .int (nI (ks + 1))) (C := RX2) (T := TX2) (N := 8) hx hb hts (fun _ h => List.mem_cons_of_mem _ (List.mem_append_right _ h)) hown hK hP 0 rfl rfl 6 kc_l_6_8 (hts (.fieldLink RX2 31 "NotEnded$Folk" "size" "I") (List.mem_cons_of_mem _ (List.mem_append_left _ (List.mem_of_getElem? (i := 0) rfl)))) (fun _ h9 => h9) rfl dX2_addPerson_72 ?_
      refine lv_iconst (v := 1) hx hb dX2_addPerson_75 kc_i_1 ?_
      refine lv_isub hx hb dX2_addPerson_76 ?_
      refine lv_topi (fun y_10 ey_10 => ?_)
      obtain rfl : y_10 = nI (ks + 1 - 1) := ey_10.trans (pk_sub (a := ks + 1) (b := 1) (by omega))
      have hP9 := hP
      have hD9 := hD
      have hK9 := hK
      rw [hQ]
      exact W.iret (v := nI (ks + 1 - 1)) hx hb hr (fun t ht hW => ⟨⟨nI (ks + 1 - 1), (f_4, f_6, f_7, sv, (ks + 1)), rfl, ⟨by split <;> first | rfl | omega | (exfalso; omega), by split <;> omega, (by first | omega | exact kOr10 (by omega) (by omega)), by rw [if_pos (by omega)]; first | rw [if_pos c_8] | rw [if_neg c_8], by rw [if_pos (by omega), ef_4, nI_clamp (n := ks) (by omega)], by rw [if_pos (by omega), ef_6, nI_clamp (n := ks) (by omega)], by rw [if_pos (by omega), ef_7, nI_clamp (n := ks) (by omega)]⟩,  by rw [ht]; exact hP9, va_K.moved hW.alike hK9, hD9⟩, hS.F ht⟩) hS.2.2 dX2_addPerson_77
    · refine lv_aload_n hx hb dX2_addPerson_46 rfl (lv_at hl 0 rfl) ?_
      refine lv_dup hx hb dX2_addPerson_47 rfl ?_
      refine va_get (D := (dC, dI)) (ci := 2) (v := .int (nI (sv))) (C := RX2) (T := TX2) (N := 8) hx hb hts (fun _ h => List.mem_cons_of_mem _ (List.mem_append_right _ h)) hown hK hP 0 rfl rfl 5 kc_l_5_8 (hts (.fieldLink RX2 27 "NotEnded$Folk" "sent" "I") (List.mem_cons_of_mem _ (List.mem_append_left _ (List.mem_of_getElem? (i := 4) rfl)))) (fun _ h9 => h9) rfl dX2_addPerson_48 ?_
      refine lv_iconst (v := 1) hx hb dX2_addPerson_51 kc_i_1 ?_
      refine lv_aload_n hx hb dX2_addPerson_52 rfl (lv_at hl 0 rfl) ?_
      refine va_get (D := (dC, dI)) (ci := 2) (v := .int (nI (ks))) (C := RX2) (T := TX2) (N := 8) hx hb hts (fun _ h => List.mem_cons_of_mem _ (List.mem_append_right _ h)) hown hK hP 0 rfl rfl 6 kc_l_6_8 (hts (.fieldLink RX2 31 "NotEnded$Folk" "size" "I") (List.mem_cons_of_mem _ (List.mem_append_left _ (List.mem_of_getElem? (i := 0) rfl)))) (fun _ h9 => h9) rfl dX2_addPerson_53 ?_
      refine lv_ishl hx hb dX2_addPerson_56 ?_
      refine lv_topi (fun y_11 ey_11 => ?_)
      obtain rfl : y_11 = nI (2 ^ (ks)) := ey_11.trans (kShl (n := ks) (by omega))
      refine lv_ior hx hb dX2_addPerson_57 ?_
      refine lv_topi (fun y_12 ey_12 => ?_)
      obtain rfl : y_12 = nI ((sv) ||| (2 ^ (ks))) := ey_12.trans (nI_or _ _)
      refine va_put (D := (dC, dI)) (ci := 2) (v := .int (nI ((sv) ||| (2 ^ (ks))))) (ty := tyX2 5) (C := RX2) (T := TX2) (N := 8) hx hb hts (fun _ h => List.mem_cons_of_mem _ (List.mem_append_right _ h)) tyX2 tyX2_ok nmX2 hown hK hP hD hS 0 rfl rfl 5 kc_l_5_8 (hts (.fieldLink RX2 27 "NotEnded$Folk" "sent" "I") (List.mem_cons_of_mem _ (List.mem_append_left _ (List.mem_of_getElem? (i := 4) rfl)))) (fun _ h9 => h9) rfl (tyX2_ok 5 kc_l_5_8) rfl rfl (Nat.le_of_ble_eq_true rfl) dX2_addPerson_58 (fun H locs hP hD hS => ?_)
      have hPD : kPD dC dI A [(hF, .inr (2, [.ref f0, .ref f1, .ref f2, .ref f3, .ref f4, .int (nI ((sv) ||| (2 ^ (ks)))), .int (nI (ks)), .int (nI (kw))])), (f0, .inl (z0, 10, .inl f_4)), (f1, .inl (z1, 10, .inl f_6)), (f2, .inl (z2, 10, .inl f_7)), (f3, .inl (z3, 10, .inl g3)), (f4, .inl (z4, 4, .inl g4))] H := ⟨hP, hD⟩
      have hP := hPD.1
      have hD := hPD.2
      refine lv_aload_n hx hb dX2_addPerson_61 rfl (lv_at hl 0 rfl) ?_
      refine lv_dup hx hb dX2_addPerson_62 rfl ?_
      refine va_get (D := (dC, dI)) (ci := 2) (v := .int (nI (ks))) (C := RX2) (T := TX2) (N := 8) hx hb hts (fun _ h => List.mem_cons_of_mem _ (List.mem_append_right _ h)) hown hK hP 0 rfl rfl 6 kc_l_6_8 (hts (.fieldLink RX2 31 "NotEnded$Folk" "size" "I") (List.mem_cons_of_mem _ (List.mem_append_left _ (List.mem_of_getElem? (i := 0) rfl)))) (fun _ h9 => h9) rfl dX2_addPerson_63 ?_
      refine lv_iconst (v := 1) hx hb dX2_addPerson_66 kc_i_1 ?_
      refine lv_iadd hx hb dX2_addPerson_67 ?_
      refine lv_topi (fun y_13 ey_13 => ?_)
      obtain rfl : y_13 = nI (ks + 1) := ey_13.trans (nI_add (ks) (1))
      refine va_put (D := (dC, dI)) (ci := 2) (v := .int (nI (ks + 1))) (ty := tyX2 6) (C := RX2) (T := TX2) (N := 8) hx hb hts (fun _ h => List.mem_cons_of_mem _ (List.mem_append_right _ h)) tyX2 tyX2_ok nmX2 hown hK hP hD hS 0 rfl rfl 6 kc_l_6_8 (hts (.fieldLink RX2 31 "NotEnded$Folk" "size" "I") (List.mem_cons_of_mem _ (List.mem_append_left _ (List.mem_of_getElem? (i := 0) rfl)))) (fun _ h9 => h9) rfl (tyX2_ok 6 kc_l_6_8) rfl rfl (Nat.le_of_ble_eq_true rfl) dX2_addPerson_68 (fun H locs hP hD hS => ?_)
      have hPD : kPD dC dI A [(hF, .inr (2, [.ref f0, .ref f1, .ref f2, .ref f3, .ref f4, .int (nI ((sv) ||| (2 ^ (ks)))), .int (nI (ks + 1)), .int (nI (kw))])), (f0, .inl (z0, 10, .inl f_4)), (f1, .inl (z1, 10, .inl f_6)), (f2, .inl (z2, 10, .inl f_7)), (f3, .inl (z3, 10, .inl g3)), (f4, .inl (z4, 4, .inl g4))] H := ⟨hP, hD⟩
      have hP := hPD.1
      have hD := hPD.2
      refine lv_aload_n hx hb dX2_addPerson_71 rfl (lv_at hl 0 rfl) ?_
      refine va_get (D := (dC, dI)) (ci := 2) (v := .int (nI (ks + 1))) (C := RX2) (T := TX2) (N := 8) hx hb hts (fun _ h => List.mem_cons_of_mem _ (List.mem_append_right _ h)) hown hK hP 0 rfl rfl 6 kc_l_6_8 (hts (.fieldLink RX2 31 "NotEnded$Folk" "size" "I") (List.mem_cons_of_mem _ (List.mem_append_left _ (List.mem_of_getElem? (i := 0) rfl)))) (fun _ h9 => h9) rfl dX2_addPerson_72 ?_
      refine lv_iconst (v := 1) hx hb dX2_addPerson_75 kc_i_1 ?_
      refine lv_isub hx hb dX2_addPerson_76 ?_
      refine lv_topi (fun y_14 ey_14 => ?_)
      obtain rfl : y_14 = nI (ks + 1 - 1) := ey_14.trans (pk_sub (a := ks + 1) (b := 1) (by omega))
      have hP9 := hP
      have hD9 := hD
      have hK9 := hK
      rw [hQ]
      exact W.iret (v := nI (ks + 1 - 1)) hx hb hr (fun t ht hW => ⟨⟨nI (ks + 1 - 1), (f_4, f_6, f_7, ((sv) ||| (2 ^ (ks))), (ks + 1)), rfl, ⟨by split <;> first | rfl | omega | (exfalso; omega), by split <;> omega, (by first | omega | exact kOr10 (by omega) (by omega)), by rw [if_pos (by omega)]; first | rw [if_pos c_8] | rw [if_neg c_8], by rw [if_pos (by omega), ef_4, nI_clamp (n := ks) (by omega)], by rw [if_pos (by omega), ef_6, nI_clamp (n := ks) (by omega)], by rw [if_pos (by omega), ef_7, nI_clamp (n := ks) (by omega)]⟩,  by rw [ht]; exact hP9, va_K.moved hW.alike hK9, hD9⟩, hS.F ht⟩) hS.2.2 dX2_addPerson_77
  · have bd_16 : ks < 2147483648 := by omega
    have hn_15 := knlt (a := ks) (b := 10) bd_16 kc_31_10 c_1
    refine lv_iconst (v := (-1)) hx hb dX2_addPerson_9 kc_i_m1 ?_
    have hP9 := hP
    have hD9 := hD
    have hK9 := hK
    rw [hQ]
    exact W.iret (v := (-1)) hx hb hr (fun t ht hW => ⟨⟨(-1), (g0, g1, g2, sv, ks), rfl, ⟨by split <;> first | rfl | omega | (exfalso; omega), by split <;> omega, (by first | omega | exact kOr10 (by omega) (by omega)), by rw [if_neg (by omega)], by rw [if_neg (by omega)], by rw [if_neg (by omega)], by rw [if_neg (by omega)]⟩,  by rw [ht]; exact hP9, va_K.moved hW.alike hK9, hD9⟩, hS.F ht⟩) hS.2.2 dX2_addPerson_10

def w_s_isBit9x : List Cond := .code yX9_isBit cX9_isBit 2 (some .boolean) :: ([])
theorem gw_s_isBit9x : (w_s_isBit9x).all goodWord = true := kGc rfl kGn
set_option maxHeartbeats 4000000 in
set_option maxRecDepth 100000 in
theorem s_isBit9x (l : Launch) (dC : Nat → ClassId) (dI : Nat → Nat → Nat) (p0 : Int32) (p1 : Int32) : Met l yX9_isBit w_s_isBit9x ({ frames := 1, cells := 0, slots := 0, locals := 60 }) (kR dC dI [.int p0, .int p1] [] [] kT) (vp_Si (fun r : Int32 => r = kIsB p0 p1)) 0 0 (fun _ => False) := by
  refine Met.ofW (cc := cX9_isBit) (maxL := 2) (ret := (some .boolean)) (by decide) rfl ?_
  intro p e s m args below meth c s₁ B hml hv
  obtain ⟨rfl, hP, hK, hX⟩ := hv
  have hx := B.exec
  have hb := B.bytes
  have hr := B.returns
  have hts := atoms_spec (ws := w_s_isBit9x) B.pre
  have hown : s.vm.findClass RX9 = some m.cls := findClass_of_methodNamed B.named
  have hlocks := B.notSynchronized
  have hP : va_P (dC, dI) vwCl [] s.heap := hP
  have hl := lv_entry ([.int p0, .int p1]) (n := 2) (Nat.le_of_ble_eq_true rfl)
  rw [lg_entry_eq]
  generalize (lg_sl ([.int p0, .int p1]) ++ List.replicate (2 - (lg_sl ([.int p0, .int p1])).length) Slot.unset).toArray = ls at hl ⊢
  have hl : lv_has ls 2 [(0, .int p0), (1, .int p1)] := hl
  refine kQ (fun Q hQ => ?_)
  refine lv_iload_n hx hb dX9_isBit_0 rfl (lv_at hl 0 rfl) ?_
  refine lv_iload_n hx hb dX9_isBit_1 rfl (lv_at hl 1 rfl) ?_
  refine lv_ishr hx hb dX9_isBit_2 ?_
  refine lv_topi (fun x_1 ex_1 => ?_)
  refine lv_iconst (v := 1) hx hb dX9_isBit_3 kc_i_1 ?_
  refine lv_iand hx hb dX9_isBit_4 ?_
  refine lv_topi (fun x_2 ex_2 => ?_)
  refine lv_if_eq (tgt := 12) hx hb dX9_isBit_5 kc_t_5_7 (fun c_3 => ?_) (fun c_3 => ?_)
  · refine lv_iconst (v := 0) hx hb dX9_isBit_12 kc_i_0 ?_
    rw [hQ]
    exact W.zret (v := 0) hx hb hr rfl (fun t ht hW => ⟨0, rfl, (by unfold kIsB; rw [← ex_1, ← ex_2]; rw [if_pos c_3]), ht⟩) (fun _ h => nomatch h) dX9_isBit_13
  · refine lv_iconst (v := 1) hx hb dX9_isBit_8 kc_i_1 ?_
    refine lv_goto (tgt := 13) hx hb dX9_isBit_9 kc_t_9_4 ?_
    rw [hQ]
    exact W.zret (v := 1) hx hb hr rfl (fun t ht hW => ⟨1, rfl, (by unfold kIsB; rw [← ex_1, ← ex_2]; rw [if_neg c_3]), ht⟩) (fun _ h => nomatch h) dX9_isBit_13

def w_s_isSent2x : List Cond := .code yX2_isSent cX2_isSent 2 (some .boolean) :: ([.fieldLink RX2 27 "NotEnded$Folk" "sent" "I", .initialized RX9, .static yX9_isBit] ++ (wsX20 ++ (w_s_isBit9x)))
theorem gw_s_isSent2x : (w_s_isSent2x).all goodWord = true := kGc rfl (kGa (by decide +kernel) (kGa gw_wsX20 gw_s_isBit9x))
set_option maxHeartbeats 4000000 in
set_option maxRecDepth 100000 in
theorem s_isSent2x (l : Launch) (dC : Nat → ClassId) (dI : Nat → Nat → Nat) (hF : Nat) (f0 : Nat) (f1 : Nat) (f2 : Nat) (f3 : Nat) (f4 : Nat) (z0 : ClassId) (z1 : ClassId) (z2 : ClassId) (z3 : ClassId) (z4 : ClassId) (g0 : Nat → Int32) (g1 : Nat → Int32) (g2 : Nat → Int32) (g3 : Nat → Int32) (g4 : Nat → Int32) (ks : Nat) (kw : Nat) (hks : ks ≤ 10) (hkw : kw ≤ 4) (sv : Nat) (hsv : sv < 1024) (p0 : Int32) : Met l yX2_isSent w_s_isSent2x ({ frames := 2, cells := 0, slots := 0, locals := 120 }) (kR dC dI [.ref hF, .int p0] [(hF, .inr (2, [.ref f0, .ref f1, .ref f2, .ref f3, .ref f4, .int (nI (sv)), .int (nI (ks)), .int (nI (kw))])), (f0, .inl (z0, 10, .inl g0)), (f1, .inl (z1, 10, .inl g1)), (f2, .inl (z2, 10, .inl g2)), (f3, .inl (z3, 10, .inl g3)), (f4, .inl (z4, 4, .inl g4))] [(z0, .int), (z1, .int), (z2, .int), (z3, .int), (z4, .int)] kNL) (vp_Si (fun r : Int32 => r = kIsB (nI sv) p0)) 0 0 (fun _ => False) := by
  refine Met.ofW (cc := cX2_isSent) (maxL := 2) (ret := (some .boolean)) (by decide) rfl ?_
  intro p e s m args below meth c s₁ B hml hv
  obtain ⟨rfl, hP, hK, hX⟩ := hv
  have hx := B.exec
  have hb := B.bytes
  have hr := B.returns
  have hts := atoms_spec (ws := w_s_isSent2x) B.pre
  have hown : s.vm.findClass RX2 = some m.cls := findClass_of_methodNamed B.named
  have hlocks := B.notSynchronized
  have hP : va_P (dC, dI) vwCl [(hF, .inr (2, [.ref f0, .ref f1, .ref f2, .ref f3, .ref f4, .int (nI (sv)), .int (nI (ks)), .int (nI (kw))])), (f0, .inl (z0, 10, .inl g0)), (f1, .inl (z1, 10, .inl g1)), (f2, .inl (z2, 10, .inl g2)), (f3, .inl (z3, 10, .inl g3)), (f4, .inl (z4, 4, .inl g4))] s.heap := hP
  have hl := lv_entry ([.ref hF, .int p0]) (n := 2) (Nat.le_of_ble_eq_true rfl)
  rw [lg_entry_eq]
  generalize (lg_sl ([.ref hF, .int p0]) ++ List.replicate (2 - (lg_sl ([.ref hF, .int p0])).length) Slot.unset).toArray = ls at hl ⊢
  have hl : lv_has ls 2 [(0, .ref hF), (1, .int p0)] := hl
  refine kQ (fun Q hQ => ?_)
  refine lv_aload_n hx hb dX2_isSent_0 rfl (lv_at hl 0 rfl) ?_
  refine va_get (D := (dC, dI)) (ci := 2) (v := .int (nI (sv))) (C := RX2) (T := TX2) (N := 8) hx hb hts (fun _ h => List.mem_cons_of_mem _ (List.mem_append_right _ (List.mem_append_left _ h))) hown hK hP 0 rfl rfl 5 kc_l_5_8 (hts (.fieldLink RX2 27 "NotEnded$Folk" "sent" "I") (List.mem_cons_of_mem _ (List.mem_append_left _ (List.mem_of_getElem? (i := 0) rfl)))) (fun _ h9 => h9) rfl dX2_isSent_1 ?_
  refine lv_iload_n hx hb dX2_isSent_4 rfl (lv_at hl 1 rfl) ?_
  have hPc := hP.sb (ws2 := []) [] rfl
  have hKc := hK.sb (tys2 := []) [] rfl
  refine vp_callSi (va_runSN (As := [.int (nI (sv)), .int p0]) (rest := []) ⟨hx, hb, hml, hown, hts⟩ (s_isBit9x l dC dI (nI (sv)) p0) (⟨va_cnB 2 hts (goodIn_sub (fun _ h => List.mem_cons_of_mem _ (List.mem_append_right _ (List.mem_append_right _ h))) gw_s_isBit9x) rfl rfl rfl (hX _ (List.mem_of_getElem? (i := 14) rfl)) (hts (.initialized RX9) (List.mem_cons_of_mem _ (List.mem_append_left _ (List.mem_of_getElem? (i := 1) rfl)))) hd_X9_isBit ⟨(Nat.le_of_ble_eq_true rfl), (Nat.le_of_ble_eq_true rfl)⟩, (hts (.static yX9_isBit) (List.mem_cons_of_mem _ (List.mem_append_left _ (List.mem_of_getElem? (i := 2) rfl)))), trivial⟩) (kR_S kT_blind kT_give hPc hKc) rfl rfl hl.1 rfl (lv_room (Nat.le_of_ble_eq_true rfl)) dX2_isSent_5 ⟨(Nat.le_of_ble_eq_true rfl), (Nat.le_of_ble_eq_true rfl)⟩).run (fun r_1 hw => ?_)
  have hw_2 := hw
  rw [hQ]
  exact W.zret (v := r_1) hx hb hr (by rw [hw_2]; exact kIsB_nar _ _) (fun t ht hW => ⟨r_1, rfl, hw_2, ht⟩) (fun _ h => nomatch h) dX2_isSent_8

def w_s_add0x : List Cond := .code yX0_add cX0_add 5 (some .int) :: ([.fieldLink RX0 24 "NotEnded$Acts" "size" "I", .fieldLink RX0 9 "NotEnded$Acts" "persons" "[I", .fieldLink RX0 15 "NotEnded$Acts" "kinds" "[I", .fieldLink RX0 18 "NotEnded$Acts" "things" "[I", .fieldLink RX0 21 "NotEnded$Acts" "costs" "[I"] ++ (wsX00))
theorem gw_s_add0x : (w_s_add0x).all goodWord = true := kGc rfl (kGa (by decide +kernel) gw_wsX00)
set_option maxHeartbeats 4000000 in
set_option maxRecDepth 100000 in
theorem s_add0x (l : Launch) (dC : Nat → ClassId) (dI : Nat → Nat → Nat) (jA : Nat) (i0 : Nat) (i1 : Nat) (i2 : Nat) (i3 : Nat) (x0 : ClassId) (x1 : ClassId) (x2 : ClassId) (x3 : ClassId) (t0 : Nat → Int32) (t1 : Nat → Int32) (t2 : Nat → Int32) (t3 : Nat → Int32) (ka : Nat) (hka : ka ≤ 6) (p0 : Int32) (p1 : Int32) (p2 : Int32) (p3 : Int32) (sz : Nat) : Met l yX0_add w_s_add0x ({ frames := 1, cells := 0, slots := 0, locals := 60 }) (kW dC dI [.ref jA, .int p0, .int p1, .int p2, .int p3] [(jA, .inr (0, [.ref i0, .ref i1, .ref i2, .ref i3, .int (nI (ka))])), (i0, .inl (x0, 6, .inl t0)), (i1, .inl (x1, 6, .inl t1)), (i2, .inl (x2, 6, .inl t2)), (i3, .inl (x3, 6, .inl t3))] [(x0, .int), (x1, .int), (x2, .int), (x3, .int)] kT sz) (va_Qi (fun (r : Int32) (u : (Nat → Int32) × (Nat → Int32) × (Nat → Int32) × (Nat → Int32) × Nat) => match u with | (n0, n1, n2, n3, ka1) => (r = (if ka < 6 then nI ka else -1) ∧ ka1 = (if ka < 6 then ka + 1 else ka))) (fun (u : (Nat → Int32) × (Nat → Int32) × (Nat → Int32) × (Nat → Int32) × Nat) => match u with | (n0, n1, n2, n3, ka1) => fun t : State => kB dC dI [(jA, .inr (0, [.ref i0, .ref i1, .ref i2, .ref i3, .int (nI (ka1))])), (i0, .inl (x0, 6, .inl n0)), (i1, .inl (x1, 6, .inl n1)), (i2, .inl (x2, 6, .inl n2)), (i3, .inl (x3, 6, .inl n3))] [(x0, .int), (x1, .int), (x2, .int), (x3, .int)] (va_A [(jA, .inr (0, [.ref i0, .ref i1, .ref i2, .ref i3, .int (nI (ka))])), (i0, .inl (x0, 6, .inl t0)), (i1, .inl (x1, 6, .inl t1)), (i2, .inl (x2, 6, .inl t2)), (i3, .inl (x3, 6, .inl t3))] sz) t) (va_A [(jA, .inr (0, [.ref i0, .ref i1, .ref i2, .ref i3, .int (nI (ka))])), (i0, .inl (x0, 6, .inl t0)), (i1, .inl (x1, 6, .inl t1)), (i2, .inl (x2, 6, .inl t2)), (i3, .inl (x3, 6, .inl t3))] sz)) 0 0 (va_A [(jA, .inr (0, [.ref i0, .ref i1, .ref i2, .ref i3, .int (nI (ka))])), (i0, .inl (x0, 6, .inl t0)), (i1, .inl (x1, 6, .inl t1)), (i2, .inl (x2, 6, .inl t2)), (i3, .inl (x3, 6, .inl t3))] sz) := by
  refine Met.ofW (cc := cX0_add) (maxL := 5) (ret := (some .int)) (by decide) rfl ?_
  intro p e s m args below meth c s₁ B hml hv
  obtain ⟨rfl, hsz, hP, hK, hD0, hX⟩ := hv
  have hx := B.exec
  have hb := B.bytes
  have hr := B.returns
  have hts := atoms_spec (ws := w_s_add0x) B.pre
  have hown : s.vm.findClass RX0 = some m.cls := findClass_of_methodNamed B.named
  have hlocks := B.notSynchronized
  subst hsz
  have hD := hD0.self (sz := s.heap.size)
  generalize hAe : va_A [(jA, .inr (0, [.ref i0, .ref i1, .ref i2, .ref i3, .int (nI (ka))])), (i0, .inl (x0, 6, .inl t0)), (i1, .inl (x1, 6, .inl t1)), (i2, .inl (x2, 6, .inl t2)), (i3, .inl (x3, 6, .inl t3))] s.heap.size = A at hD ⊢
  have hA : ∀ q : Nat, s.heap.size ≤ q → A q := fun q h => by rw [← hAe]; exact Or.inr h
  have hS : va_S A s.heap s.heap [] := va_S.rf
  have hP : va_P (dC, dI) vwCl [(jA, .inr (0, [.ref i0, .ref i1, .ref i2, .ref i3, .int (nI (ka))])), (i0, .inl (x0, 6, .inl t0)), (i1, .inl (x1, 6, .inl t1)), (i2, .inl (x2, 6, .inl t2)), (i3, .inl (x3, 6, .inl t3))] s.heap := hP
  have hl := lv_entry ([.ref jA, .int p0, .int p1, .int p2, .int p3]) (n := 5) (Nat.le_of_ble_eq_true rfl)
  rw [lg_entry_eq]
  generalize (lg_sl ([.ref jA, .int p0, .int p1, .int p2, .int p3]) ++ List.replicate (5 - (lg_sl ([.ref jA, .int p0, .int p1, .int p2, .int p3])).length) Slot.unset).toArray = ls at hl ⊢
  have hl : lv_has ls 5 [(0, .ref jA), (1, .int p0), (2, .int p1), (3, .int p2), (4, .int p3)] := hl
  refine kQ (fun Q hQ => ?_)
  refine lv_aload_n hx hb dX0_add_0 rfl (lv_at hl 0 rfl) ?_
  refine va_get (D := (dC, dI)) (ci := 0) (v := .int (nI (ka))) (C := RX0) (T := TX0) (N := 5) hx hb hts (fun _ h => List.mem_cons_of_mem _ (List.mem_append_right _ h)) hown hK hP 0 rfl rfl 4 kc_l_4_5 (hts (.fieldLink RX0 24 "NotEnded$Acts" "size" "I") (List.mem_cons_of_mem _ (List.mem_append_left _ (List.mem_of_getElem? (i := 0) rfl)))) (fun _ h9 => h9) rfl dX0_add_1 ?_
  refine lv_bipush (v := 6) hx hb dX0_add_4 kc_b_6 ?_
  refine lv_icmp_lt (tgt := 11) hx hb dX0_add_6 kc_t_6_5 (fun c_1 => ?_) (fun c_1 => ?_)
  · have bd_3 : ka < 2147483648 := by omega
    have hn_2 := klt (a := ka) (b := 6) bd_3 kc_31_6 c_1
    refine lv_aload_n hx hb dX0_add_11 rfl (lv_at hl 0 rfl) ?_
    refine va_get (D := (dC, dI)) (ci := 0) (v := .ref i0) (C := RX0) (T := TX0) (N := 5) hx hb hts (fun _ h => List.mem_cons_of_mem _ (List.mem_append_right _ h)) hown hK hP 0 rfl rfl 0 kc_l_0_5 (hts (.fieldLink RX0 9 "NotEnded$Acts" "persons" "[I") (List.mem_cons_of_mem _ (List.mem_append_left _ (List.mem_of_getElem? (i := 1) rfl)))) (fun _ h9 => h9) rfl dX0_add_12 ?_
    refine lv_aload_n hx hb dX0_add_15 rfl (lv_at hl 0 rfl) ?_
    refine va_get (D := (dC, dI)) (ci := 0) (v := .int (nI (ka))) (C := RX0) (T := TX0) (N := 5) hx hb hts (fun _ h => List.mem_cons_of_mem _ (List.mem_append_right _ h)) hown hK hP 0 rfl rfl 4 kc_l_4_5 (hts (.fieldLink RX0 24 "NotEnded$Acts" "size" "I") (List.mem_cons_of_mem _ (List.mem_append_left _ (List.mem_of_getElem? (i := 0) rfl)))) (fun _ h9 => h9) rfl dX0_add_16 ?_
    refine lv_iload_n hx hb dX0_add_19 rfl (lv_at hl 1 rfl) ?_
    have bd_5 : ka < 6 := by omega
    refine va_iast hx hb hK hP hD hS 1 0 rfl rfl (vp_in_nI (n := ka) (N := 6) bd_5 kc_31_6) dX0_add_20 (fun H locs hP hD hS => ?_)
    obtain ⟨f_4, ef_4⟩ : ∃ gg9 : Nat → Int32, gg9 = upd t0 (Int32.toNatClampNeg (nI (ka))) p0 := ⟨_, rfl⟩
    have hPD : kPD dC dI A [(jA, .inr (0, [.ref i0, .ref i1, .ref i2, .ref i3, .int (nI (ka))])), (i0, .inl (x0, 6, .inl f_4)), (i1, .inl (x1, 6, .inl t1)), (i2, .inl (x2, 6, .inl t2)), (i3, .inl (x3, 6, .inl t3))] H := by rw [ef_4]; exact ⟨hP, hD⟩
    have hP := hPD.1
    have hD := hPD.2
    refine lv_aload_n hx hb dX0_add_21 rfl (lv_at hl 0 rfl) ?_
    refine va_get (D := (dC, dI)) (ci := 0) (v := .ref i1) (C := RX0) (T := TX0) (N := 5) hx hb hts (fun _ h => List.mem_cons_of_mem _ (List.mem_append_right _ h)) hown hK hP 0 rfl rfl 1 kc_l_1_5 (hts (.fieldLink RX0 15 "NotEnded$Acts" "kinds" "[I") (List.mem_cons_of_mem _ (List.mem_append_left _ (List.mem_of_getElem? (i := 2) rfl)))) (fun _ h9 => h9) rfl dX0_add_22 ?_
    refine lv_aload_n hx hb dX0_add_25 rfl (lv_at hl 0 rfl) ?_
    refine va_get (D := (dC, dI)) (ci := 0) (v := .int (nI (ka))) (C := RX0) (T := TX0) (N := 5) hx hb hts (fun _ h => List.mem_cons_of_mem _ (List.mem_append_right _ h)) hown hK hP 0 rfl rfl 4 kc_l_4_5 (hts (.fieldLink RX0 24 "NotEnded$Acts" "size" "I") (List.mem_cons_of_mem _ (List.mem_append_left _ (List.mem_of_getElem? (i := 0) rfl)))) (fun _ h9 => h9) rfl dX0_add_26 ?_
    refine lv_iload_n hx hb dX0_add_29 rfl (lv_at hl 2 rfl) ?_
    refine va_iast hx hb hK hP hD hS 2 1 rfl rfl (vp_in_nI (n := ka) (N := 6) bd_5 kc_31_6) dX0_add_30 (fun H locs hP hD hS => ?_)
    obtain ⟨f_6, ef_6⟩ : ∃ gg9 : Nat → Int32, gg9 = upd t1 (Int32.toNatClampNeg (nI (ka))) p1 := ⟨_, rfl⟩
    have hPD : kPD dC dI A [(jA, .inr (0, [.ref i0, .ref i1, .ref i2, .ref i3, .int (nI (ka))])), (i0, .inl (x0, 6, .inl f_4)), (i1, .inl (x1, 6, .inl f_6)), (i2, .inl (x2, 6, .inl t2)), (i3, .inl (x3, 6, .inl t3))] H := by rw [ef_6]; exact ⟨hP, hD⟩
    have hP := hPD.1
    have hD := hPD.2
    refine lv_aload_n hx hb dX0_add_31 rfl (lv_at hl 0 rfl) ?_
    refine va_get (D := (dC, dI)) (ci := 0) (v := .ref i2) (C := RX0) (T := TX0) (N := 5) hx hb hts (fun _ h => List.mem_cons_of_mem _ (List.mem_append_right _ h)) hown hK hP 0 rfl rfl 2 kc_l_2_5 (hts (.fieldLink RX0 18 "NotEnded$Acts" "things" "[I") (List.mem_cons_of_mem _ (List.mem_append_left _ (List.mem_of_getElem? (i := 3) rfl)))) (fun _ h9 => h9) rfl dX0_add_32 ?_
    refine lv_aload_n hx hb dX0_add_35 rfl (lv_at hl 0 rfl) ?_
    refine va_get (D := (dC, dI)) (ci := 0) (v := .int (nI (ka))) (C := RX0) (T := TX0) (N := 5) hx hb hts (fun _ h => List.mem_cons_of_mem _ (List.mem_append_right _ h)) hown hK hP 0 rfl rfl 4 kc_l_4_5 (hts (.fieldLink RX0 24 "NotEnded$Acts" "size" "I") (List.mem_cons_of_mem _ (List.mem_append_left _ (List.mem_of_getElem? (i := 0) rfl)))) (fun _ h9 => h9) rfl dX0_add_36 ?_
    refine lv_iload_n hx hb dX0_add_39 rfl (lv_at hl 3 rfl) ?_
    refine va_iast hx hb hK hP hD hS 3 2 rfl rfl (vp_in_nI (n := ka) (N := 6) bd_5 kc_31_6) dX0_add_40 (fun H locs hP hD hS => ?_)
    obtain ⟨f_7, ef_7⟩ : ∃ gg9 : Nat → Int32, gg9 = upd t2 (Int32.toNatClampNeg (nI (ka))) p2 := ⟨_, rfl⟩
    have hPD : kPD dC dI A [(jA, .inr (0, [.ref i0, .ref i1, .ref i2, .ref i3, .int (nI (ka))])), (i0, .inl (x0, 6, .inl f_4)), (i1, .inl (x1, 6, .inl f_6)), (i2, .inl (x2, 6, .inl f_7)), (i3, .inl (x3, 6, .inl t3))] H := by rw [ef_7]; exact ⟨hP, hD⟩
    have hP := hPD.1
    have hD := hPD.2
    refine lv_aload_n hx hb dX0_add_41 rfl (lv_at hl 0 rfl) ?_
    refine va_get (D := (dC, dI)) (ci := 0) (v := .ref i3) (C := RX0) (T := TX0) (N := 5) hx hb hts (fun _ h => List.mem_cons_of_mem _ (List.mem_append_right _ h)) hown hK hP 0 rfl rfl 3 kc_l_3_5 (hts (.fieldLink RX0 21 "NotEnded$Acts" "costs" "[I") (List.mem_cons_of_mem _ (List.mem_append_left _ (List.mem_of_getElem? (i := 4) rfl)))) (fun _ h9 => h9) rfl dX0_add_42 ?_
    refine lv_aload_n hx hb dX0_add_45 rfl (lv_at hl 0 rfl) ?_
    refine va_get (D := (dC, dI)) (ci := 0) (v := .int (nI (ka))) (C := RX0) (T := TX0) (N := 5) hx hb hts (fun _ h => List.mem_cons_of_mem _ (List.mem_append_right _ h)) hown hK hP 0 rfl rfl 4 kc_l_4_5 (hts (.fieldLink RX0 24 "NotEnded$Acts" "size" "I") (List.mem_cons_of_mem _ (List.mem_append_left _ (List.mem_of_getElem? (i := 0) rfl)))) (fun _ h9 => h9) rfl dX0_add_46 ?_
    refine lv_iload hx hb dX0_add_49 (lv_at hl 4 rfl) ?_
    refine va_iast hx hb hK hP hD hS 4 3 rfl rfl (vp_in_nI (n := ka) (N := 6) bd_5 kc_31_6) dX0_add_51 (fun H locs hP hD hS => ?_)
    obtain ⟨f_8, ef_8⟩ : ∃ gg9 : Nat → Int32, gg9 = upd t3 (Int32.toNatClampNeg (nI (ka))) p3 := ⟨_, rfl⟩
    have hPD : kPD dC dI A [(jA, .inr (0, [.ref i0, .ref i1, .ref i2, .ref i3, .int (nI (ka))])), (i0, .inl (x0, 6, .inl f_4)), (i1, .inl (x1, 6, .inl f_6)), (i2, .inl (x2, 6, .inl f_7)), (i3, .inl (x3, 6, .inl f_8))] H := by rw [ef_8]; exact ⟨hP, hD⟩
    have hP := hPD.1
    have hD := hPD.2
    refine lv_aload_n hx hb dX0_add_52 rfl (lv_at hl 0 rfl) ?_
    refine lv_dup hx hb dX0_add_53 rfl ?_
    refine va_get (D := (dC, dI)) (ci := 0) (v := .int (nI (ka))) (C := RX0) (T := TX0) (N := 5) hx hb hts (fun _ h => List.mem_cons_of_mem _ (List.mem_append_right _ h)) hown hK hP 0 rfl rfl 4 kc_l_4_5 (hts (.fieldLink RX0 24 "NotEnded$Acts" "size" "I") (List.mem_cons_of_mem _ (List.mem_append_left _ (List.mem_of_getElem? (i := 0) rfl)))) (fun _ h9 => h9) rfl dX0_add_54 ?_
    refine lv_iconst (v := 1) hx hb dX0_add_57 kc_i_1 ?_
    refine lv_iadd hx hb dX0_add_58 ?_
    refine lv_topi (fun y_9 ey_9 => ?_)
    obtain rfl : y_9 = nI (ka + 1) := ey_9.trans (nI_add (ka) (1))
    refine va_put (D := (dC, dI)) (ci := 0) (v := .int (nI (ka + 1))) (ty := tyX0 4) (C := RX0) (T := TX0) (N := 5) hx hb hts (fun _ h => List.mem_cons_of_mem _ (List.mem_append_right _ h)) tyX0 tyX0_ok nmX0 hown hK hP hD hS 0 rfl rfl 4 kc_l_4_5 (hts (.fieldLink RX0 24 "NotEnded$Acts" "size" "I") (List.mem_cons_of_mem _ (List.mem_append_left _ (List.mem_of_getElem? (i := 0) rfl)))) (fun _ h9 => h9) rfl (tyX0_ok 4 kc_l_4_5) rfl rfl (Nat.le_of_ble_eq_true rfl) dX0_add_59 (fun H locs hP hD hS => ?_)
    have hPD : kPD dC dI A [(jA, .inr (0, [.ref i0, .ref i1, .ref i2, .ref i3, .int (nI (ka + 1))])), (i0, .inl (x0, 6, .inl f_4)), (i1, .inl (x1, 6, .inl f_6)), (i2, .inl (x2, 6, .inl f_7)), (i3, .inl (x3, 6, .inl f_8))] H := ⟨hP, hD⟩
    have hP := hPD.1
    have hD := hPD.2
    refine lv_aload_n hx hb dX0_add_62 rfl (lv_at hl 0 rfl) ?_
    refine va_get (D := (dC, dI)) (ci := 0) (v := .int (nI (ka + 1))) (C := RX0) (T := TX0) (N := 5) hx hb hts (fun _ h => List.mem_cons_of_mem _ (List.mem_append_right _ h)) hown hK hP 0 rfl rfl 4 kc_l_4_5 (hts (.fieldLink RX0 24 "NotEnded$Acts" "size" "I") (List.mem_cons_of_mem _ (List.mem_append_left _ (List.mem_of_getElem? (i := 0) rfl)))) (fun _ h9 => h9) rfl dX0_add_63 ?_
    refine lv_iconst (v := 1) hx hb dX0_add_66 kc_i_1 ?_
    refine lv_isub hx hb dX0_add_67 ?_
    refine lv_topi (fun y_10 ey_10 => ?_)
    obtain rfl : y_10 = nI (ka + 1 - 1) := ey_10.trans (pk_sub (a := ka + 1) (b := 1) (by omega))
    have hP9 := hP
    have hD9 := hD
    have hK9 := hK
    rw [hQ]
    exact W.iret (v := nI (ka + 1 - 1)) hx hb hr (fun t ht hW => ⟨⟨nI (ka + 1 - 1), (f_4, f_6, f_7, f_8, (ka + 1)), rfl, ⟨by split <;> first | rfl | omega | (exfalso; omega), by split <;> omega⟩,  by rw [ht]; exact hP9, va_K.moved hW.alike hK9, hD9⟩, hS.F ht⟩) hS.2.2 dX0_add_68
  · have bd_12 : ka < 2147483648 := by omega
    have hn_11 := knlt (a := ka) (b := 6) bd_12 kc_31_6 c_1
    refine lv_iconst (v := (-1)) hx hb dX0_add_9 kc_i_m1 ?_
    have hP9 := hP
    have hD9 := hD
    have hK9 := hK
    rw [hQ]
    exact W.iret (v := (-1)) hx hb hr (fun t ht hW => ⟨⟨(-1), (t0, t1, t2, t3, ka), rfl, ⟨by split <;> first | rfl | omega | (exfalso; omega), by split <;> omega⟩,  by rw [ht]; exact hP9, va_K.moved hW.alike hK9, hD9⟩, hS.F ht⟩) hS.2.2 dX0_add_10

def w_s_add3x : List Cond := .code yX3_add cX3_add 6 (some .int) :: ([.fieldLink RX3 27 "NotEnded$Notebook" "size" "I", .fieldLink RX3 9 "NotEnded$Notebook" "persons" "[I", .fieldLink RX3 15 "NotEnded$Notebook" "hours" "[I", .fieldLink RX3 18 "NotEnded$Notebook" "kinds" "[I", .fieldLink RX3 21 "NotEnded$Notebook" "values" "[I", .fieldLink RX3 24 "NotEnded$Notebook" "offs" "[I"] ++ (wsX30))
theorem gw_s_add3x : (w_s_add3x).all goodWord = true := kGc rfl (kGa (by decide +kernel) gw_wsX30)
set_option maxHeartbeats 4000000 in
set_option maxRecDepth 100000 in
theorem s_add3x (l : Launch) (dC : Nat → ClassId) (dI : Nat → Nat → Nat) (hN : Nat) (o0 : Nat) (o1 : Nat) (o2 : Nat) (o3 : Nat) (o4 : Nat) (y0 : ClassId) (y1 : ClassId) (y2 : ClassId) (y3 : ClassId) (y4 : ClassId) (q0 : Nat → Int32) (q1 : Nat → Int32) (q2 : Nat → Int32) (q3 : Nat → Int32) (q4 : Nat → Int32) (kn : Nat) (hkn : kn ≤ 20) (p0 : Int32) (p1 : Int32) (p2 : Int32) (p3 : Int32) (p4 : Int32) (sz : Nat) : Met l yX3_add w_s_add3x ({ frames := 1, cells := 0, slots := 0, locals := 60 }) (kW dC dI [.ref hN, .int p0, .int p1, .int p2, .int p3, .int p4] [(hN, .inr (3, [.ref o0, .ref o1, .ref o2, .ref o3, .ref o4, .int (nI (kn))])), (o0, .inl (y0, 20, .inl q0)), (o1, .inl (y1, 20, .inl q1)), (o2, .inl (y2, 20, .inl q2)), (o3, .inl (y3, 20, .inl q3)), (o4, .inl (y4, 20, .inl q4))] [(y0, .int), (y1, .int), (y2, .int), (y3, .int), (y4, .int)] kT sz) (va_Qi (fun (r : Int32) (u : (Nat → Int32) × (Nat → Int32) × (Nat → Int32) × (Nat → Int32) × (Nat → Int32) × Nat) => match u with | (n0, n1, n2, n3, n4, kn1) => (r = (if kn < 20 then nI (kn + 1) else -1) ∧ kn1 = (if kn < 20 then kn + 1 else kn))) (fun (u : (Nat → Int32) × (Nat → Int32) × (Nat → Int32) × (Nat → Int32) × (Nat → Int32) × Nat) => match u with | (n0, n1, n2, n3, n4, kn1) => fun t : State => kB dC dI [(hN, .inr (3, [.ref o0, .ref o1, .ref o2, .ref o3, .ref o4, .int (nI (kn1))])), (o0, .inl (y0, 20, .inl n0)), (o1, .inl (y1, 20, .inl n1)), (o2, .inl (y2, 20, .inl n2)), (o3, .inl (y3, 20, .inl n3)), (o4, .inl (y4, 20, .inl n4))] [(y0, .int), (y1, .int), (y2, .int), (y3, .int), (y4, .int)] (va_A [(hN, .inr (3, [.ref o0, .ref o1, .ref o2, .ref o3, .ref o4, .int (nI (kn))])), (o0, .inl (y0, 20, .inl q0)), (o1, .inl (y1, 20, .inl q1)), (o2, .inl (y2, 20, .inl q2)), (o3, .inl (y3, 20, .inl q3)), (o4, .inl (y4, 20, .inl q4))] sz) t) (va_A [(hN, .inr (3, [.ref o0, .ref o1, .ref o2, .ref o3, .ref o4, .int (nI (kn))])), (o0, .inl (y0, 20, .inl q0)), (o1, .inl (y1, 20, .inl q1)), (o2, .inl (y2, 20, .inl q2)), (o3, .inl (y3, 20, .inl q3)), (o4, .inl (y4, 20, .inl q4))] sz)) 0 0 (va_A [(hN, .inr (3, [.ref o0, .ref o1, .ref o2, .ref o3, .ref o4, .int (nI (kn))])), (o0, .inl (y0, 20, .inl q0)), (o1, .inl (y1, 20, .inl q1)), (o2, .inl (y2, 20, .inl q2)), (o3, .inl (y3, 20, .inl q3)), (o4, .inl (y4, 20, .inl q4))] sz) := by
  refine Met.ofW (cc := cX3_add) (maxL := 6) (ret := (some .int)) (by decide) rfl ?_
  intro p e s m args below meth c s₁ B hml hv
  obtain ⟨rfl, hsz, hP, hK, hD0, hX⟩ := hv
  have hx := B.exec
  have hb := B.bytes
  have hr := B.returns
  have hts := atoms_spec (ws := w_s_add3x) B.pre
  have hown : s.vm.findClass RX3 = some m.cls := findClass_of_methodNamed B.named
  have hlocks := B.notSynchronized
  subst hsz
  have hD := hD0.self (sz := s.heap.size)
  generalize hAe : va_A [(hN, .inr (3, [.ref o0, .ref o1, .ref o2, .ref o3, .ref o4, .int (nI (kn))])), (o0, .inl (y0, 20, .inl q0)), (o1, .inl (y1, 20, .inl q1)), (o2, .inl (y2, 20, .inl q2)), (o3, .inl (y3, 20, .inl q3)), (o4, .inl (y4, 20, .inl q4))] s.heap.size = A at hD ⊢
  have hA : ∀ q : Nat, s.heap.size ≤ q → A q := fun q h => by rw [← hAe]; exact Or.inr h
  have hS : va_S A s.heap s.heap [] := va_S.rf
  have hP : va_P (dC, dI) vwCl [(hN, .inr (3, [.ref o0, .ref o1, .ref o2, .ref o3, .ref o4, .int (nI (kn))])), (o0, .inl (y0, 20, .inl q0)), (o1, .inl (y1, 20, .inl q1)), (o2, .inl (y2, 20, .inl q2)), (o3, .inl (y3, 20, .inl q3)), (o4, .inl (y4, 20, .inl q4))] s.heap := hP
  have hl := lv_entry ([.ref hN, .int p0, .int p1, .int p2, .int p3, .int p4]) (n := 6) (Nat.le_of_ble_eq_true rfl)
  rw [lg_entry_eq]
  generalize (lg_sl ([.ref hN, .int p0, .int p1, .int p2, .int p3, .int p4]) ++ List.replicate (6 - (lg_sl ([.ref hN, .int p0, .int p1, .int p2, .int p3, .int p4])).length) Slot.unset).toArray = ls at hl ⊢
  have hl : lv_has ls 6 [(0, .ref hN), (1, .int p0), (2, .int p1), (3, .int p2), (4, .int p3), (5, .int p4)] := hl
  refine kQ (fun Q hQ => ?_)
  refine lv_aload_n hx hb dX3_add_0 rfl (lv_at hl 0 rfl) ?_
  refine va_get (D := (dC, dI)) (ci := 3) (v := .int (nI (kn))) (C := RX3) (T := TX3) (N := 6) hx hb hts (fun _ h => List.mem_cons_of_mem _ (List.mem_append_right _ h)) hown hK hP 0 rfl rfl 5 kc_l_5_6 (hts (.fieldLink RX3 27 "NotEnded$Notebook" "size" "I") (List.mem_cons_of_mem _ (List.mem_append_left _ (List.mem_of_getElem? (i := 0) rfl)))) (fun _ h9 => h9) rfl dX3_add_1 ?_
  refine lv_bipush (v := 20) hx hb dX3_add_4 kc_b_20 ?_
  refine lv_icmp_lt (tgt := 11) hx hb dX3_add_6 kc_t_6_5 (fun c_1 => ?_) (fun c_1 => ?_)
  · have bd_3 : kn < 2147483648 := by omega
    have hn_2 := klt (a := kn) (b := 20) bd_3 kc_31_20 c_1
    refine lv_aload_n hx hb dX3_add_11 rfl (lv_at hl 0 rfl) ?_
    refine va_get (D := (dC, dI)) (ci := 3) (v := .ref o0) (C := RX3) (T := TX3) (N := 6) hx hb hts (fun _ h => List.mem_cons_of_mem _ (List.mem_append_right _ h)) hown hK hP 0 rfl rfl 0 kc_l_0_6 (hts (.fieldLink RX3 9 "NotEnded$Notebook" "persons" "[I") (List.mem_cons_of_mem _ (List.mem_append_left _ (List.mem_of_getElem? (i := 1) rfl)))) (fun _ h9 => h9) rfl dX3_add_12 ?_
    refine lv_aload_n hx hb dX3_add_15 rfl (lv_at hl 0 rfl) ?_
    refine va_get (D := (dC, dI)) (ci := 3) (v := .int (nI (kn))) (C := RX3) (T := TX3) (N := 6) hx hb hts (fun _ h => List.mem_cons_of_mem _ (List.mem_append_right _ h)) hown hK hP 0 rfl rfl 5 kc_l_5_6 (hts (.fieldLink RX3 27 "NotEnded$Notebook" "size" "I") (List.mem_cons_of_mem _ (List.mem_append_left _ (List.mem_of_getElem? (i := 0) rfl)))) (fun _ h9 => h9) rfl dX3_add_16 ?_
    refine lv_iload_n hx hb dX3_add_19 rfl (lv_at hl 1 rfl) ?_
    have bd_5 : kn < 20 := by omega
    refine va_iast hx hb hK hP hD hS 1 0 rfl rfl (vp_in_nI (n := kn) (N := 20) bd_5 kc_31_20) dX3_add_20 (fun H locs hP hD hS => ?_)
    obtain ⟨f_4, ef_4⟩ : ∃ gg9 : Nat → Int32, gg9 = upd q0 (Int32.toNatClampNeg (nI (kn))) p0 := ⟨_, rfl⟩
    have hPD : kPD dC dI A [(hN, .inr (3, [.ref o0, .ref o1, .ref o2, .ref o3, .ref o4, .int (nI (kn))])), (o0, .inl (y0, 20, .inl f_4)), (o1, .inl (y1, 20, .inl q1)), (o2, .inl (y2, 20, .inl q2)), (o3, .inl (y3, 20, .inl q3)), (o4, .inl (y4, 20, .inl q4))] H := by rw [ef_4]; exact ⟨hP, hD⟩
    have hP := hPD.1
    have hD := hPD.2
    refine lv_aload_n hx hb dX3_add_21 rfl (lv_at hl 0 rfl) ?_
    refine va_get (D := (dC, dI)) (ci := 3) (v := .ref o1) (C := RX3) (T := TX3) (N := 6) hx hb hts (fun _ h => List.mem_cons_of_mem _ (List.mem_append_right _ h)) hown hK hP 0 rfl rfl 1 kc_l_1_6 (hts (.fieldLink RX3 15 "NotEnded$Notebook" "hours" "[I") (List.mem_cons_of_mem _ (List.mem_append_left _ (List.mem_of_getElem? (i := 2) rfl)))) (fun _ h9 => h9) rfl dX3_add_22 ?_
    refine lv_aload_n hx hb dX3_add_25 rfl (lv_at hl 0 rfl) ?_
    refine va_get (D := (dC, dI)) (ci := 3) (v := .int (nI (kn))) (C := RX3) (T := TX3) (N := 6) hx hb hts (fun _ h => List.mem_cons_of_mem _ (List.mem_append_right _ h)) hown hK hP 0 rfl rfl 5 kc_l_5_6 (hts (.fieldLink RX3 27 "NotEnded$Notebook" "size" "I") (List.mem_cons_of_mem _ (List.mem_append_left _ (List.mem_of_getElem? (i := 0) rfl)))) (fun _ h9 => h9) rfl dX3_add_26 ?_
    refine lv_iload_n hx hb dX3_add_29 rfl (lv_at hl 2 rfl) ?_
    refine va_iast hx hb hK hP hD hS 2 1 rfl rfl (vp_in_nI (n := kn) (N := 20) bd_5 kc_31_20) dX3_add_30 (fun H locs hP hD hS => ?_)
    obtain ⟨f_6, ef_6⟩ : ∃ gg9 : Nat → Int32, gg9 = upd q1 (Int32.toNatClampNeg (nI (kn))) p1 := ⟨_, rfl⟩
    have hPD : kPD dC dI A [(hN, .inr (3, [.ref o0, .ref o1, .ref o2, .ref o3, .ref o4, .int (nI (kn))])), (o0, .inl (y0, 20, .inl f_4)), (o1, .inl (y1, 20, .inl f_6)), (o2, .inl (y2, 20, .inl q2)), (o3, .inl (y3, 20, .inl q3)), (o4, .inl (y4, 20, .inl q4))] H := by rw [ef_6]; exact ⟨hP, hD⟩
    have hP := hPD.1
    have hD := hPD.2
    refine lv_aload_n hx hb dX3_add_31 rfl (lv_at hl 0 rfl) ?_
    refine va_get (D := (dC, dI)) (ci := 3) (v := .ref o2) (C := RX3) (T := TX3) (N := 6) hx hb hts (fun _ h => List.mem_cons_of_mem _ (List.mem_append_right _ h)) hown hK hP 0 rfl rfl 2 kc_l_2_6 (hts (.fieldLink RX3 18 "NotEnded$Notebook" "kinds" "[I") (List.mem_cons_of_mem _ (List.mem_append_left _ (List.mem_of_getElem? (i := 3) rfl)))) (fun _ h9 => h9) rfl dX3_add_32 ?_
    refine lv_aload_n hx hb dX3_add_35 rfl (lv_at hl 0 rfl) ?_
    refine va_get (D := (dC, dI)) (ci := 3) (v := .int (nI (kn))) (C := RX3) (T := TX3) (N := 6) hx hb hts (fun _ h => List.mem_cons_of_mem _ (List.mem_append_right _ h)) hown hK hP 0 rfl rfl 5 kc_l_5_6 (hts (.fieldLink RX3 27 "NotEnded$Notebook" "size" "I") (List.mem_cons_of_mem _ (List.mem_append_left _ (List.mem_of_getElem? (i := 0) rfl)))) (fun _ h9 => h9) rfl dX3_add_36 ?_
    refine lv_iload_n hx hb dX3_add_39 rfl (lv_at hl 3 rfl) ?_
    refine va_iast hx hb hK hP hD hS 3 2 rfl rfl (vp_in_nI (n := kn) (N := 20) bd_5 kc_31_20) dX3_add_40 (fun H locs hP hD hS => ?_)
    obtain ⟨f_7, ef_7⟩ : ∃ gg9 : Nat → Int32, gg9 = upd q2 (Int32.toNatClampNeg (nI (kn))) p2 := ⟨_, rfl⟩
    have hPD : kPD dC dI A [(hN, .inr (3, [.ref o0, .ref o1, .ref o2, .ref o3, .ref o4, .int (nI (kn))])), (o0, .inl (y0, 20, .inl f_4)), (o1, .inl (y1, 20, .inl f_6)), (o2, .inl (y2, 20, .inl f_7)), (o3, .inl (y3, 20, .inl q3)), (o4, .inl (y4, 20, .inl q4))] H := by rw [ef_7]; exact ⟨hP, hD⟩
    have hP := hPD.1
    have hD := hPD.2
    refine lv_aload_n hx hb dX3_add_41 rfl (lv_at hl 0 rfl) ?_
    refine va_get (D := (dC, dI)) (ci := 3) (v := .ref o3) (C := RX3) (T := TX3) (N := 6) hx hb hts (fun _ h => List.mem_cons_of_mem _ (List.mem_append_right _ h)) hown hK hP 0 rfl rfl 3 kc_l_3_6 (hts (.fieldLink RX3 21 "NotEnded$Notebook" "values" "[I") (List.mem_cons_of_mem _ (List.mem_append_left _ (List.mem_of_getElem? (i := 4) rfl)))) (fun _ h9 => h9) rfl dX3_add_42 ?_
    refine lv_aload_n hx hb dX3_add_45 rfl (lv_at hl 0 rfl) ?_
    refine va_get (D := (dC, dI)) (ci := 3) (v := .int (nI (kn))) (C := RX3) (T := TX3) (N := 6) hx hb hts (fun _ h => List.mem_cons_of_mem _ (List.mem_append_right _ h)) hown hK hP 0 rfl rfl 5 kc_l_5_6 (hts (.fieldLink RX3 27 "NotEnded$Notebook" "size" "I") (List.mem_cons_of_mem _ (List.mem_append_left _ (List.mem_of_getElem? (i := 0) rfl)))) (fun _ h9 => h9) rfl dX3_add_46 ?_
    refine lv_iload hx hb dX3_add_49 (lv_at hl 4 rfl) ?_
    refine va_iast hx hb hK hP hD hS 4 3 rfl rfl (vp_in_nI (n := kn) (N := 20) bd_5 kc_31_20) dX3_add_51 (fun H locs hP hD hS => ?_)
    obtain ⟨f_8, ef_8⟩ : ∃ gg9 : Nat → Int32, gg9 = upd q3 (Int32.toNatClampNeg (nI (kn))) p3 := ⟨_, rfl⟩
    have hPD : kPD dC dI A [(hN, .inr (3, [.ref o0, .ref o1, .ref o2, .ref o3, .ref o4, .int (nI (kn))])), (o0, .inl (y0, 20, .inl f_4)), (o1, .inl (y1, 20, .inl f_6)), (o2, .inl (y2, 20, .inl f_7)), (o3, .inl (y3, 20, .inl f_8)), (o4, .inl (y4, 20, .inl q4))] H := by rw [ef_8]; exact ⟨hP, hD⟩
    have hP := hPD.1
    have hD := hPD.2
    refine lv_aload_n hx hb dX3_add_52 rfl (lv_at hl 0 rfl) ?_
    refine va_get (D := (dC, dI)) (ci := 3) (v := .ref o4) (C := RX3) (T := TX3) (N := 6) hx hb hts (fun _ h => List.mem_cons_of_mem _ (List.mem_append_right _ h)) hown hK hP 0 rfl rfl 4 kc_l_4_6 (hts (.fieldLink RX3 24 "NotEnded$Notebook" "offs" "[I") (List.mem_cons_of_mem _ (List.mem_append_left _ (List.mem_of_getElem? (i := 5) rfl)))) (fun _ h9 => h9) rfl dX3_add_53 ?_
    refine lv_aload_n hx hb dX3_add_56 rfl (lv_at hl 0 rfl) ?_
    refine va_get (D := (dC, dI)) (ci := 3) (v := .int (nI (kn))) (C := RX3) (T := TX3) (N := 6) hx hb hts (fun _ h => List.mem_cons_of_mem _ (List.mem_append_right _ h)) hown hK hP 0 rfl rfl 5 kc_l_5_6 (hts (.fieldLink RX3 27 "NotEnded$Notebook" "size" "I") (List.mem_cons_of_mem _ (List.mem_append_left _ (List.mem_of_getElem? (i := 0) rfl)))) (fun _ h9 => h9) rfl dX3_add_57 ?_
    refine lv_iload hx hb dX3_add_60 (lv_at hl 5 rfl) ?_
    refine va_iast hx hb hK hP hD hS 5 4 rfl rfl (vp_in_nI (n := kn) (N := 20) bd_5 kc_31_20) dX3_add_62 (fun H locs hP hD hS => ?_)
    obtain ⟨f_9, ef_9⟩ : ∃ gg9 : Nat → Int32, gg9 = upd q4 (Int32.toNatClampNeg (nI (kn))) p4 := ⟨_, rfl⟩
    have hPD : kPD dC dI A [(hN, .inr (3, [.ref o0, .ref o1, .ref o2, .ref o3, .ref o4, .int (nI (kn))])), (o0, .inl (y0, 20, .inl f_4)), (o1, .inl (y1, 20, .inl f_6)), (o2, .inl (y2, 20, .inl f_7)), (o3, .inl (y3, 20, .inl f_8)), (o4, .inl (y4, 20, .inl f_9))] H := by rw [ef_9]; exact ⟨hP, hD⟩
    have hP := hPD.1
    have hD := hPD.2
    refine lv_aload_n hx hb dX3_add_63 rfl (lv_at hl 0 rfl) ?_
    refine lv_dup hx hb dX3_add_64 rfl ?_
    refine va_get (D := (dC, dI)) (ci := 3) (v := .int (nI (kn))) (C := RX3) (T := TX3) (N := 6) hx hb hts (fun _ h => List.mem_cons_of_mem _ (List.mem_append_right _ h)) hown hK hP 0 rfl rfl 5 kc_l_5_6 (hts (.fieldLink RX3 27 "NotEnded$Notebook" "size" "I") (List.mem_cons_of_mem _ (List.mem_append_left _ (List.mem_of_getElem? (i := 0) rfl)))) (fun _ h9 => h9) rfl dX3_add_65 ?_
    refine lv_iconst (v := 1) hx hb dX3_add_68 kc_i_1 ?_
    refine lv_iadd hx hb dX3_add_69 ?_
    refine lv_topi (fun y_10 ey_10 => ?_)
    obtain rfl : y_10 = nI (kn + 1) := ey_10.trans (nI_add (kn) (1))
    refine va_put (D := (dC, dI)) (ci := 3) (v := .int (nI (kn + 1))) (ty := tyX3 5) (C := RX3) (T := TX3) (N := 6) hx hb hts (fun _ h => List.mem_cons_of_mem _ (List.mem_append_right _ h)) tyX3 tyX3_ok nmX3 hown hK hP hD hS 0 rfl rfl 5 kc_l_5_6 (hts (.fieldLink RX3 27 "NotEnded$Notebook" "size" "I") (List.mem_cons_of_mem _ (List.mem_append_left _ (List.mem_of_getElem? (i := 0) rfl)))) (fun _ h9 => h9) rfl (tyX3_ok 5 kc_l_5_6) rfl rfl (Nat.le_of_ble_eq_true rfl) dX3_add_70 (fun H locs hP hD hS => ?_)
    have hPD : kPD dC dI A [(hN, .inr (3, [.ref o0, .ref o1, .ref o2, .ref o3, .ref o4, .int (nI (kn + 1))])), (o0, .inl (y0, 20, .inl f_4)), (o1, .inl (y1, 20, .inl f_6)), (o2, .inl (y2, 20, .inl f_7)), (o3, .inl (y3, 20, .inl f_8)), (o4, .inl (y4, 20, .inl f_9))] H := ⟨hP, hD⟩
    have hP := hPD.1
    have hD := hPD.2
    refine lv_aload_n hx hb dX3_add_73 rfl (lv_at hl 0 rfl) ?_
    refine va_get (D := (dC, dI)) (ci := 3) (v := .int (nI (kn + 1))) (C := RX3) (T := TX3) (N := 6) hx hb hts (fun _ h => List.mem_cons_of_mem _ (List.mem_append_right _ h)) hown hK hP 0 rfl rfl 5 kc_l_5_6 (hts (.fieldLink RX3 27 "NotEnded$Notebook" "size" "I") (List.mem_cons_of_mem _ (List.mem_append_left _ (List.mem_of_getElem? (i := 0) rfl)))) (fun _ h9 => h9) rfl dX3_add_74 ?_
    have hP9 := hP
    have hD9 := hD
    have hK9 := hK
    rw [hQ]
    exact W.iret (v := nI (kn + 1)) hx hb hr (fun t ht hW => ⟨⟨nI (kn + 1), (f_4, f_6, f_7, f_8, f_9, (kn + 1)), rfl, ⟨by split <;> first | rfl | omega | (exfalso; omega), by split <;> omega⟩,  by rw [ht]; exact hP9, va_K.moved hW.alike hK9, hD9⟩, hS.F ht⟩) hS.2.2 dX3_add_77
  · have bd_12 : kn < 2147483648 := by omega
    have hn_11 := knlt (a := kn) (b := 20) bd_12 kc_31_20 c_1
    refine lv_iconst (v := (-1)) hx hb dX3_add_9 kc_i_m1 ?_
    have hP9 := hP
    have hD9 := hD
    have hK9 := hK
    rw [hQ]
    exact W.iret (v := (-1)) hx hb hr (fun t ht hW => ⟨⟨(-1), (q0, q1, q2, q3, q4, kn), rfl, ⟨by split <;> first | rfl | omega | (exfalso; omega), by split <;> omega⟩,  by rw [ht]; exact hP9, va_K.moved hW.alike hK9, hD9⟩, hS.F ht⟩) hS.2.2 dX3_add_10

def w_s_put7x : List Cond := .code yX7_put cX7_put 2 (some .int) :: ([.initialized RX7, .selects RX7 yX7_isFull yX7_isFull, .instanceMethod yX7_isFull, .methodLink RX7 21 yX7_isFull, .fieldLink RX7 17 "NotEnded$Shelf" "rules" "[LNotEnded$Rule;", .fieldLink RX7 9 "NotEnded$Shelf" "size" "I"] ++ (w_s_isFull7 ++ (wsX70)))
theorem gw_s_put7x : (w_s_put7x).all goodWord = true := kGc rfl (kGa (by decide +kernel) (kGa gw_s_isFull7 gw_wsX70))
set_option maxHeartbeats 4000000 in
set_option maxRecDepth 100000 in
theorem s_put7x (l : Launch) (dC : Nat → ClassId) (dI : Nat → Nat → Nat) (jS : Nat) (rS : Nat) (cH : ClassId) (gH : Nat → Option Nat) (kh : Nat) (nH : Nat) (hnH : nH ≤ 8) (hkx : kh < nH) (ru : Nat) (sA : Nat) (cl : Nat) (sz : Nat) : Met l yX7_put w_s_put7x ({ frames := 2, cells := 0, slots := 0, locals := 120 }) (kW dC dI [.ref jS, .ref ru] [(jS, .inr (7, [.ref rS, .int (nI (kh))])), (rS, .inl (cH, nH, .inr (.inr (.inr (.inr gH))))), (ru, .inr (6, [.ref sA, .ref cl]))] [(cH, .object RX6)] kT sz) (va_Qi (fun (r : Int32) (u : (Nat → Option Nat) × Nat) => match u with | (gH1, kh1) => (r = nI (kh) ∧ kh1 = kh + 1 ∧ gH1 = va_up gH kh (some ru))) (fun (u : (Nat → Option Nat) × Nat) => match u with | (gH1, kh1) => fun t : State => kB dC dI [(jS, .inr (7, [.ref rS, .int (nI (kh1))])), (rS, .inl (cH, nH, .inr (.inr (.inr (.inr gH1))))), (ru, .inr (6, [.ref sA, .ref cl]))] [(cH, .object RX6)] (va_A [(jS, .inr (7, [.ref rS, .int (nI (kh))])), (rS, .inl (cH, nH, .inr (.inr (.inr (.inr gH))))), (ru, .inr (6, [.ref sA, .ref cl]))] sz) t) (va_A [(jS, .inr (7, [.ref rS, .int (nI (kh))])), (rS, .inl (cH, nH, .inr (.inr (.inr (.inr gH))))), (ru, .inr (6, [.ref sA, .ref cl]))] sz)) 0 0 (va_A [(jS, .inr (7, [.ref rS, .int (nI (kh))])), (rS, .inl (cH, nH, .inr (.inr (.inr (.inr gH))))), (ru, .inr (6, [.ref sA, .ref cl]))] sz) := by
  refine Met.ofW (cc := cX7_put) (maxL := 2) (ret := (some .int)) (by decide) rfl ?_
  intro p e s m args below meth c s₁ B hml hv
  obtain ⟨rfl, hsz, hP, hK, hD0, hX⟩ := hv
  have hx := B.exec
  have hb := B.bytes
  have hr := B.returns
  have hts := atoms_spec (ws := w_s_put7x) B.pre
  have hown : s.vm.findClass RX7 = some m.cls := findClass_of_methodNamed B.named
  have hlocks := B.notSynchronized
  subst hsz
  have hD := hD0.self (sz := s.heap.size)
  generalize hAe : va_A [(jS, .inr (7, [.ref rS, .int (nI (kh))])), (rS, .inl (cH, nH, .inr (.inr (.inr (.inr gH))))), (ru, .inr (6, [.ref sA, .ref cl]))] s.heap.size = A at hD ⊢
  have hA : ∀ q : Nat, s.heap.size ≤ q → A q := fun q h => by rw [← hAe]; exact Or.inr h
  have hS : va_S A s.heap s.heap [] := va_S.rf
  have hP : va_P (dC, dI) vwCl [(jS, .inr (7, [.ref rS, .int (nI (kh))])), (rS, .inl (cH, nH, .inr (.inr (.inr (.inr gH))))), (ru, .inr (6, [.ref sA, .ref cl]))] s.heap := hP
  have hl := lv_entry ([.ref jS, .ref ru]) (n := 2) (Nat.le_of_ble_eq_true rfl)
  rw [lg_entry_eq]
  generalize (lg_sl ([.ref jS, .ref ru]) ++ List.replicate (2 - (lg_sl ([.ref jS, .ref ru])).length) Slot.unset).toArray = ls at hl ⊢
  have hl : lv_has ls 2 [(0, .ref jS), (1, .ref ru)] := hl
  refine kQ (fun Q hQ => ?_)
  refine lv_aload_n hx hb dX7_put_0 rfl (lv_at hl 0 rfl) ?_
  have bd_1 : kh ≤ nH := by omega
  have hPc := hP.sb (ws2 := [(jS, .inr (7, [.ref rS, .int (nI (kh))])), (rS, .inl (cH, nH, .inr (.inr (.inr (.inr gH)))))]) [0, 1] rfl
  have hKc := hK.sb (tys2 := [(cH, .object RX6)]) [0] rfl
  refine vp_callSi (va_runV (As := []) (rest := []) ⟨hx, hb, hml, hown, hts⟩ (s_isFull7 l dC dI jS rS cH gH kh nH hnH bd_1) (cwV 0 hts (kG (List.forall_mem_cons.mpr ⟨(List.mem_cons_of_mem _ (List.mem_append_left _ (List.mem_of_getElem? (i := 3) rfl))), (List.forall_mem_cons.mpr ⟨(List.mem_cons_of_mem _ (List.mem_append_left _ (List.mem_of_getElem? (i := 2) rfl))), (List.forall_mem_cons.mpr ⟨(List.mem_cons_of_mem _ (List.mem_append_left _ (List.mem_of_getElem? (i := 1) rfl))), (List.forall_mem_cons.mpr ⟨(List.mem_cons_of_mem _ (List.mem_append_left _ (List.mem_of_getElem? (i := 0) rfl))), (fun _ h => absurd h List.not_mem_nil)⟩)⟩)⟩)⟩) (kGV _ _ _ _) (fun _ h => List.mem_cons_of_mem _ (List.mem_append_right _ (List.mem_append_left _ h))) gw_s_isFull7) rfl rfl rfl ⟨rfl, hd_X7_isFull⟩ ⟨(Nat.le_of_ble_eq_true rfl), (Nat.le_of_ble_eq_true rfl)⟩) (kR_V kT_blind kT_give (va_recv hKc hPc (ci := 7) (q0 := 0) rfl rfl) hPc hKc) rfl rfl hl.1 rfl (lv_room (Nat.le_of_ble_eq_true rfl)) dX7_put_1 ⟨(Nat.le_of_ble_eq_true rfl), (Nat.le_of_ble_eq_true rfl)⟩).run (fun r_2 hw => ?_)
  have hw_3 := hw
  refine lv_if_eq (tgt := 9) hx hb dX7_put_4 kc_t_4_5 (fun c_4 => ?_) (fun c_4 => ?_)
  · refine lv_aload_n hx hb dX7_put_9 rfl (lv_at hl 0 rfl) ?_
    refine va_get (D := (dC, dI)) (ci := 7) (v := .ref rS) (C := RX7) (T := TX7) (N := 2) hx hb hts (fun _ h => List.mem_cons_of_mem _ (List.mem_append_right _ (List.mem_append_right _ h))) hown hK hP 0 rfl rfl 0 kc_l_0_2 (hts (.fieldLink RX7 17 "NotEnded$Shelf" "rules" "[LNotEnded$Rule;") (List.mem_cons_of_mem _ (List.mem_append_left _ (List.mem_of_getElem? (i := 4) rfl)))) (fun _ h9 => h9) rfl dX7_put_10 ?_
    refine lv_aload_n hx hb dX7_put_13 rfl (lv_at hl 0 rfl) ?_
    refine va_get (D := (dC, dI)) (ci := 7) (v := .int (nI (kh))) (C := RX7) (T := TX7) (N := 2) hx hb hts (fun _ h => List.mem_cons_of_mem _ (List.mem_append_right _ (List.mem_append_right _ h))) hown hK hP 0 rfl rfl 1 kc_l_1_2 (hts (.fieldLink RX7 9 "NotEnded$Shelf" "size" "I") (List.mem_cons_of_mem _ (List.mem_append_left _ (List.mem_of_getElem? (i := 5) rfl)))) (fun _ h9 => h9) rfl dX7_put_14 ?_
    refine lv_aload_n hx hb dX7_put_17 rfl (lv_at hl 1 rfl) ?_
    have bd_6 : kh < nH := by omega
    have bd_7 : nH < 2147483648 := by omega
    refine va_astq hx hb hK hP hD hS 1 0 2 6 (r := (RX6, TX6, 2)) rfl rfl rfl rfl (vp_in_nI (n := kh) (N := nH) bd_6 bd_7) dX7_put_18 (fun H locs hP hD hS => ?_)
    obtain ⟨f_5, ef_5⟩ : ∃ gg9 : Nat → Option Nat, gg9 = va_up gH (Int32.toNatClampNeg (nI (kh))) (some ru) := ⟨_, rfl⟩
    have hPD : kPD dC dI A [(jS, .inr (7, [.ref rS, .int (nI (kh))])), (rS, .inl (cH, nH, .inr (.inr (.inr (.inr f_5))))), (ru, .inr (6, [.ref sA, .ref cl]))] H := by rw [ef_5]; exact ⟨hP, hD⟩
    have hP := hPD.1
    have hD := hPD.2
    refine lv_aload_n hx hb dX7_put_19 rfl (lv_at hl 0 rfl) ?_
    refine lv_dup hx hb dX7_put_20 rfl ?_
    refine va_get (D := (dC, dI)) (ci := 7) (v := .int (nI (kh))) (C := RX7) (T := TX7) (N := 2) hx hb hts (fun _ h => List.mem_cons_of_mem _ (List.mem_append_right _ (List.mem_append_right _ h))) hown hK hP 0 rfl rfl 1 kc_l_1_2 (hts (.fieldLink RX7 9 "NotEnded$Shelf" "size" "I") (List.mem_cons_of_mem _ (List.mem_append_left _ (List.mem_of_getElem? (i := 5) rfl)))) (fun _ h9 => h9) rfl dX7_put_21 ?_
    refine lv_iconst (v := 1) hx hb dX7_put_24 kc_i_1 ?_
    refine lv_iadd hx hb dX7_put_25 ?_
    refine lv_topi (fun y_8 ey_8 => ?_)
    obtain rfl : y_8 = nI (kh + 1) := ey_8.trans (nI_add (kh) (1))
    refine va_put (D := (dC, dI)) (ci := 7) (v := .int (nI (kh + 1))) (ty := tyX7 1) (C := RX7) (T := TX7) (N := 2) hx hb hts (fun _ h => List.mem_cons_of_mem _ (List.mem_append_right _ (List.mem_append_right _ h))) tyX7 tyX7_ok nmX7 hown hK hP hD hS 0 rfl rfl 1 kc_l_1_2 (hts (.fieldLink RX7 9 "NotEnded$Shelf" "size" "I") (List.mem_cons_of_mem _ (List.mem_append_left _ (List.mem_of_getElem? (i := 5) rfl)))) (fun _ h9 => h9) rfl (tyX7_ok 1 kc_l_1_2) rfl rfl (Nat.le_of_ble_eq_true rfl) dX7_put_26 (fun H locs hP hD hS => ?_)
    have hPD : kPD dC dI A [(jS, .inr (7, [.ref rS, .int (nI (kh + 1))])), (rS, .inl (cH, nH, .inr (.inr (.inr (.inr f_5))))), (ru, .inr (6, [.ref sA, .ref cl]))] H := ⟨hP, hD⟩
    have hP := hPD.1
    have hD := hPD.2
    refine lv_aload_n hx hb dX7_put_29 rfl (lv_at hl 0 rfl) ?_
    refine va_get (D := (dC, dI)) (ci := 7) (v := .int (nI (kh + 1))) (C := RX7) (T := TX7) (N := 2) hx hb hts (fun _ h => List.mem_cons_of_mem _ (List.mem_append_right _ (List.mem_append_right _ h))) hown hK hP 0 rfl rfl 1 kc_l_1_2 (hts (.fieldLink RX7 9 "NotEnded$Shelf" "size" "I") (List.mem_cons_of_mem _ (List.mem_append_left _ (List.mem_of_getElem? (i := 5) rfl)))) (fun _ h9 => h9) rfl dX7_put_30 ?_
    refine lv_iconst (v := 1) hx hb dX7_put_33 kc_i_1 ?_
    refine lv_isub hx hb dX7_put_34 ?_
    refine lv_topi (fun y_9 ey_9 => ?_)
    obtain rfl : y_9 = nI (kh + 1 - 1) := ey_9.trans (pk_sub (a := kh + 1) (b := 1) (by omega))
    have hP9 := hP
    have hD9 := hD
    have hK9 := hK
    rw [hQ]
    exact W.iret (v := nI (kh + 1 - 1)) hx hb hr (fun t ht hW => ⟨⟨nI (kh + 1 - 1), (f_5, (kh + 1)), rfl, ⟨rfl, rfl, by rw [ef_5, nI_clamp (by omega)]⟩,  by rw [ht]; exact hP9, va_K.moved hW.alike hK9, hD9⟩, hS.F ht⟩) hS.2.2 dX7_put_35
  · refine lv_iconst (v := (-1)) hx hb dX7_put_7 kc_i_m1 ?_
    have hP9 := hP
    have hD9 := hD
    have hK9 := hK
    rw [hQ]
    exact W.iret (v := (-1)) hx hb hr (fun t ht hW => ⟨⟨(-1), (gH, kh), rfl, (by exfalso; exact absurd (kFullN hw_3 c_4) (by omega)),  by rw [ht]; exact hP9, va_K.moved hW.alike hK9, hD9⟩, hS.F ht⟩) hS.2.2 dX7_put_8

def w_s_at7x : List Cond := .code yX7_at cX7_at 2 (some (.object "NotEnded$Rule")) :: ([.fieldLink RX7 9 "NotEnded$Shelf" "size" "I", .fieldLink RX7 17 "NotEnded$Shelf" "rules" "[LNotEnded$Rule;"] ++ (wsX70))
theorem gw_s_at7x : (w_s_at7x).all goodWord = true := kGc rfl (kGa (by decide +kernel) gw_wsX70)
set_option maxHeartbeats 4000000 in
set_option maxRecDepth 100000 in
theorem s_at7x (l : Launch) (dC : Nat → ClassId) (dI : Nat → Nat → Nat) (jS : Nat) (rS : Nat) (cH : ClassId) (gH : Nat → Option Nat) (kh : Nat) (nH : Nat) (hnH : nH ≤ 8) (hkh : kh ≤ nH) (p0 : Int32) : Met l yX7_at w_s_at7x ({ frames := 1, cells := 0, slots := 0, locals := 60 }) (kR dC dI [.ref jS, .int p0] [(jS, .inr (7, [.ref rS, .int (nI (kh))])), (rS, .inl (cH, nH, .inr (.inr (.inr (.inr gH)))))] [(cH, .object RX6)] kT) (va_Sq (fun r : Option Nat => ((r = none ∧ kPn p0 kh = 0) ∨ (kPn p0 kh = 1 ∧ ∃ j : Nat, j < kh ∧ r = gH j)))) 0 0 (fun _ => False) := by
  refine Met.ofW (cc := cX7_at) (maxL := 2) (ret := (some (.object "NotEnded$Rule"))) (by decide) rfl ?_
  intro p e s m args below meth c s₁ B hml hv
  obtain ⟨rfl, hP, hK, hX⟩ := hv
  have hx := B.exec
  have hb := B.bytes
  have hr := B.returns
  have hts := atoms_spec (ws := w_s_at7x) B.pre
  have hown : s.vm.findClass RX7 = some m.cls := findClass_of_methodNamed B.named
  have hlocks := B.notSynchronized
  have hP : va_P (dC, dI) vwCl [(jS, .inr (7, [.ref rS, .int (nI (kh))])), (rS, .inl (cH, nH, .inr (.inr (.inr (.inr gH)))))] s.heap := hP
  have hl := lv_entry ([.ref jS, .int p0]) (n := 2) (Nat.le_of_ble_eq_true rfl)
  rw [lg_entry_eq]
  generalize (lg_sl ([.ref jS, .int p0]) ++ List.replicate (2 - (lg_sl ([.ref jS, .int p0])).length) Slot.unset).toArray = ls at hl ⊢
  have hl : lv_has ls 2 [(0, .ref jS), (1, .int p0)] := hl
  refine kQ (fun Q hQ => ?_)
  refine lv_iload_n hx hb dX7_at_0 rfl (lv_at hl 1 rfl) ?_
  refine lv_if_lt (tgt := 30) hx hb dX7_at_1 kc_t_1_29 (fun c_1 => ?_) (fun c_1 => ?_)
  · refine lv_null hx hb dX7_at_30 ?_
    rw [hQ]
    exact W.aret hx hb hr (Or.inl ⟨_, rfl⟩) (Or.inl rfl) (fun t ht hW => ⟨none, rfl, (Or.inl ⟨rfl, by first | (unfold kPn; rw [if_pos c_1]; done) | (rw [kPn_nI (by omega) (by omega), if_neg (by omega)]; done) | (exfalso; omega)⟩), ht⟩) (fun _ h => nomatch h) dX7_at_31
  · obtain ⟨j_2, hj_2, ej_2⟩ := nI_of c_1
    subst ej_2
    refine lv_iload_n hx hb dX7_at_4 rfl (lv_at hl 1 rfl) ?_
    refine lv_aload_n hx hb dX7_at_5 rfl (lv_at hl 0 rfl) ?_
    refine va_get (D := (dC, dI)) (ci := 7) (v := .int (nI (kh))) (C := RX7) (T := TX7) (N := 2) hx hb hts (fun _ h => List.mem_cons_of_mem _ (List.mem_append_right _ h)) hown hK hP 0 rfl rfl 1 kc_l_1_2 (hts (.fieldLink RX7 9 "NotEnded$Shelf" "size" "I") (List.mem_cons_of_mem _ (List.mem_append_left _ (List.mem_of_getElem? (i := 0) rfl)))) (fun _ h9 => h9) rfl dX7_at_6 ?_
    refine lv_icmp_ge (tgt := 30) hx hb dX7_at_9 kc_t_9_21 (fun c_3 => ?_) (fun c_3 => ?_)
    · have bd_5 : kh < 2147483648 := by omega
      have bd_6 : j_2 < 2147483648 := by omega
      have hn_4 := kle (a := kh) (b := j_2) bd_5 bd_6 c_3
      refine lv_null hx hb dX7_at_30 ?_
      rw [hQ]
      exact W.aret hx hb hr (Or.inl ⟨_, rfl⟩) (Or.inl rfl) (fun t ht hW => ⟨none, rfl, (Or.inl ⟨rfl, by first | (unfold kPn; rw [if_pos c_1]; done) | (rw [kPn_nI (by omega) (by omega), if_neg (by omega)]; done) | (exfalso; omega)⟩), ht⟩) (fun _ h => nomatch h) dX7_at_31
    · have bd_8 : kh < 2147483648 := by omega
      have bd_9 : j_2 < 2147483648 := by omega
      have hn_7 := knle (a := kh) (b := j_2) bd_8 bd_9 c_3
      refine lv_iload_n hx hb dX7_at_12 rfl (lv_at hl 1 rfl) ?_
      refine lv_aload_n hx hb dX7_at_13 rfl (lv_at hl 0 rfl) ?_
      refine va_get (D := (dC, dI)) (ci := 7) (v := .ref rS) (C := RX7) (T := TX7) (N := 2) hx hb hts (fun _ h => List.mem_cons_of_mem _ (List.mem_append_right _ h)) hown hK hP 0 rfl rfl 0 kc_l_0_2 (hts (.fieldLink RX7 17 "NotEnded$Shelf" "rules" "[LNotEnded$Rule;") (List.mem_cons_of_mem _ (List.mem_append_left _ (List.mem_of_getElem? (i := 1) rfl)))) (fun _ h9 => h9) rfl dX7_at_14 ?_
      refine va_alen hx hb hK hP 1 0 rfl rfl (v := nI (nH)) rfl dX7_at_17 ?_
      refine lv_icmp_ge (tgt := 30) hx hb dX7_at_18 kc_t_18_12 (fun c_10 => ?_) (fun c_10 => ?_)
      · have bd_12 : nH < 2147483648 := by omega
        have hn_11 := kle (a := nH) (b := j_2) bd_12 bd_9 c_10
        refine lv_null hx hb dX7_at_30 ?_
        rw [hQ]
        exact W.aret hx hb hr (Or.inl ⟨_, rfl⟩) (Or.inl rfl) (fun t ht hW => ⟨none, rfl, (Or.inl ⟨rfl, by first | (unfold kPn; rw [if_pos c_1]; done) | (rw [kPn_nI (by omega) (by omega), if_neg (by omega)]; done) | (exfalso; omega)⟩), ht⟩) (fun _ h => nomatch h) dX7_at_31
      · have bd_14 : nH < 2147483648 := by omega
        have hn_13 := knle (a := nH) (b := j_2) bd_14 bd_9 c_10
        refine lv_aload_n hx hb dX7_at_21 rfl (lv_at hl 0 rfl) ?_
        refine va_get (D := (dC, dI)) (ci := 7) (v := .ref rS) (C := RX7) (T := TX7) (N := 2) hx hb hts (fun _ h => List.mem_cons_of_mem _ (List.mem_append_right _ h)) hown hK hP 0 rfl rfl 0 kc_l_0_2 (hts (.fieldLink RX7 17 "NotEnded$Shelf" "rules" "[LNotEnded$Rule;") (List.mem_cons_of_mem _ (List.mem_append_left _ (List.mem_of_getElem? (i := 1) rfl)))) (fun _ h9 => h9) rfl dX7_at_22 ?_
        refine lv_iload_n hx hb dX7_at_25 rfl (lv_at hl 1 rfl) ?_
        have bd_15 : j_2 < nH := by omega
        refine va_aldq hx hb hK hP 1 0 rfl rfl (vp_in_nI (n := j_2) (N := nH) bd_15 bd_14) dX7_at_26 ?_
        obtain ⟨x_16, ex_16⟩ : ∃ z9 : Option Nat, z9 = gH (Int32.toNatClampNeg (nI (j_2))) := ⟨_, rfl⟩
        rw [← ex_16]
        refine lv_goto (tgt := 31) hx hb dX7_at_27 kc_t_27_4 ?_
        rw [hQ]
        exact W.aret hx hb hr (Or.inl ⟨_, rfl⟩) (kRfv x_16) (fun t ht hW => ⟨x_16, rfl, (Or.inr ⟨by rw [kPn_nI (by omega) (by omega), if_pos (by omega)], j_2, by omega, by rw [ex_16, nI_clamp (by omega)]⟩), ht⟩) (fun _ h => nomatch h) dX7_at_31

/-- a sum over those of whom c holds -/
def kSm (c : Nat → Bool) (f : Nat → Int32) : Nat → Int32
  | 0 => 0
  | n + 1 => if c n then kSm c f n + f n else kSm c f n
theorem kSm_t {c : Nat → Bool} {f : Nat → Int32} {n : Nat} (h : c n = true) : kSm c f (n + 1) = kSm c f n + f n := if_pos h
theorem kSm_f {c : Nat → Bool} {f : Nat → Int32} {n : Nat} (h : ¬ c n = true) : kSm c f (n + 1) = kSm c f n := if_neg h
theorem kSm_c {c d : Nat → Bool} {f g : Nat → Int32} : ∀ n : Nat, (∀ o : Nat, o < n → c o = d o) → (∀ o : Nat, o < n → c o = true → f o = g o) → kSm c f n = kSm d g n := by
  intro n
  induction n with
  | zero => intro _ _; rfl
  | succ n ih =>
    intro h1 h2
    have e := ih (fun o ho => h1 o (by omega)) (fun o ho => h2 o (by omega))
    by_cases z : c n = true
    · rw [kSm_t z, kSm_t ((h1 n (by omega)).symm.trans z), e, h2 n (by omega) z]
    · rw [kSm_f z, kSm_f (fun y => z ((h1 n (by omega)).trans y)), e]
/-- all but one, and that one -/
def kBut (j : Nat) (c : Nat → Bool) : Nat → Bool := fun o => decide (¬ o = j) && c o
theorem kBut_n {j o : Nat} {c : Nat → Bool} (h : ¬ o = j) : kBut j c o = c o := by
  unfold kBut
  rw [decide_eq_true h, Bool.true_and]
theorem kBut_s {j : Nat} {c : Nat → Bool} : ¬ kBut j c j = true := by
  unfold kBut
  rw [decide_eq_false (fun z => z rfl), Bool.false_and]
  decide
theorem kSm_out {c : Nat → Bool} {f : Nat → Int32} {j : Nat} (hc : c j = true) : ∀ n : Nat, j < n → kSm c f n = kSm (kBut j c) f n + f j := by
  intro n
  induction n with
  | zero => intro h; exact absurd h (Nat.not_lt_zero j)
  | succ n ih =>
    intro h
    by_cases z : j = n
    · subst z
      rw [kSm_t hc, kSm_f kBut_s]
      congr 1
      exact kSm_c j (fun o ho => (kBut_n (by omega)).symm) (fun _ _ _ => rfl)
    · have e := ih (by omega)
      by_cases y : c n = true
      · rw [kSm_t y, kSm_t ((kBut_n (fun q => z q.symm)).trans y), e, Int32.add_assoc, Int32.add_assoc, Int32.add_comm (f j)]
      · rw [kSm_f y, kSm_f (fun q => y ((kBut_n (fun q => z q.symm)).symm.trans q)), e]
theorem kAddI {a b : Int32} (h1 : -2147483648 ≤ a.toInt + b.toInt) (h2 : a.toInt + b.toInt < 2147483648) : (a + b).toInt = a.toInt + b.toInt := by
  rw [Int32.toInt_add]
  exact Int.bmod_eq_of_le (by omega) (by omega)
theorem kSm_b {c : Nat → Bool} {f : Nat → Int32} {M : Nat} (hM : M ≤ 1000) : ∀ n : Nat, n ≤ 20 → (∀ o : Nat, o < n → 0 ≤ (f o).toInt ∧ (f o).toInt ≤ M) → 0 ≤ (kSm c f n).toInt ∧ (kSm c f n).toInt ≤ M * n := by
  intro n
  induction n with
  | zero => intro _ _; exact ⟨by show (0 : Int) ≤ (0 : Int32).toInt; decide, by show (0 : Int32).toInt ≤ _; rw [show (0 : Int32).toInt = 0 by decide]; omega⟩
  | succ n ih =>
    intro hn h
    have e := ih (by omega) (fun o ho => h o (by omega))
    have hf := h n (by omega)
    have hq : (M : Int) * (n + 1 : Nat) = M * n + M := by rw [Int.natCast_add, Int.mul_add]; simp
    have hmn : (M : Int) * n ≤ 20000 := by
      have : M * n ≤ 1000 * 20 := Nat.mul_le_mul hM (by omega)
      have h9 : ((M * n : Nat) : Int) ≤ 20000 := by omega
      rw [Int.natCast_mul] at h9
      exact h9
    by_cases z : c n = true
    · rw [kSm_t z, kAddI (by omega) (by omega), hq]
      omega
    · rw [kSm_f z, hq]
      omega
/-- a run: what each holds, what it has put in, where it is, since when it tells, what was drawn, the hour -/
abbrev kRst : Type := (Nat → Int32) × (Nat → Int32) × (Nat → Int32) × (Nat → Int32) × Int64 × Nat
/-- what a run goes by: how many persons, how many words, whom each knows, the words, who is sent, who is there, the law -/
abbrev kEn : Type := Nat × Nat × (Nat → Int32) × (Nat → Int32) × (Nat → Int32) × (Nat → Int32) × List kTr
/-- there, and in a house -/
def kIh (E : kEn) (S : kRst) (q : Int32) : Nat → Bool := fun o => decide (¬ E.2.2.2.2.2.1 o = 0) && decide (S.2.2.1 o = q)
theorem kIh_t {E : kEn} {S : kRst} {q : Int32} {o : Nat} : kIh E S q o = true ↔ ¬ E.2.2.2.2.2.1 o = 0 ∧ S.2.2.1 o = q := by
  unfold kIh
  rw [Bool.and_eq_true, decide_eq_true_iff, decide_eq_true_iff]
def kNn (E : kEn) (S : kRst) (j : Nat) : Int32 := if S.2.2.1 j = -1 then 0 else kSm (kBut j (kIh E S (S.2.2.1 j))) (fun _ => 1) E.1
def kNh (E : kEn) (S : kRst) (j : Nat) : Int32 := if S.2.2.1 j = -1 then 0 else kSm (kBut j (kIh E S (S.2.2.1 j))) S.1 E.1
def kNse (E : kEn) (S : kRst) (j : Nat) : Int32 := if S.2.2.1 j = -1 then 0 else kSm (kBut j (kIh E S (S.2.2.1 j))) E.2.2.2.2.1 E.1
/-- the words that are past, and the latest of them -/
def kPa (f : Nat → Int32) (h : Int32) : Nat → Bool := fun i => decide (f i ≤ h)
def kLa (f : Nat → Int32) (h : Int32) : Nat → Int32
  | 0 => -1
  | n + 1 => if f n ≤ h then (if kLa f h n < f n then f n else kLa f h n) else kLa f h n
def kUu (E : kEn) (S : kRst) : Int32 := kSm (kPa E.2.2.2.1 (nI S.2.2.2.2.2)) (fun _ => 1) E.2.1
def kDd (E : kEn) (S : kRst) : Int32 := if kLa E.2.2.2.1 (nI S.2.2.2.2.2) E.2.1 = -1 then 0 else nI S.2.2.2.2.2 - kLa E.2.2.2.1 (nI S.2.2.2.2.2) E.2.1
/-- the letters of one -/
def kLe (E : kEn) (S : kRst) (j : Nat) : Nat → Int32 := fun k => if k = 0 then S.1 j else if k = 1 then S.2.1 j else if k = 2 then kNn E S j else if k = 3 then (if kNn E S j = 0 then 0 else kNh E S j / kNn E S j) else if k = 4 then kNse E S j else if k = 5 then kUu E S else if k = 6 then kDd E S else nI S.2.2.2.2.2
/-- what a label is worth to one -/
def kYy (E : kEn) (S : kRst) (lab j : Nat) : Int32 := kWoT (kLe E S j) lab E.2.2.2.2.2.2
def kFr (E : kEn) (j : Nat) : Bool := decide (¬ E.2.2.2.2.2.1 j = 0) && decide (E.2.2.2.2.1 j = 0)
theorem kFr_t {E : kEn} {j : Nat} : kFr E j = true ↔ ¬ E.2.2.2.2.2.1 j = 0 ∧ E.2.2.2.2.1 j = 0 := by
  unfold kFr
  rw [Bool.and_eq_true, decide_eq_true_iff, decide_eq_true_iff]
def kWi (x : Int32) : Int32 := if x < 0 then 0 else if 100 < x then 100 else x
theorem kWi_b (x : Int32) : 0 ≤ (kWi x).toInt ∧ (kWi x).toInt ≤ 100 := by
  unfold kWi
  have h100 : (100 : Int32).toInt = 100 := by decide
  have h0 : (0 : Int32).toInt = 0 := by decide
  split
  · rw [h0]; omega
  · next h1 =>
    split
    · rw [h100]; omega
    · next h2 =>
      have h3 : ¬ x.toInt < (0 : Int32).toInt := fun z => h1 (Int32.lt_iff_toInt_lt.mpr z)
      have h4 : ¬ (100 : Int32).toInt < x.toInt := fun z => h2 (Int32.lt_iff_toInt_lt.mpr z)
      omega
/-- behind the law's more or less -/
def kH1 (E : kEn) (S : kRst) (j : Nat) : Int32 := if kFr E j then kWi (S.1 j + kYy E S 0 j) else S.1 j
def kTe (E : kEn) (S : kRst) (j : Nat) : Bool := kFr E j && decide (50 ≤ kH1 E S j)
theorem kTe_t {E : kEn} {S : kRst} {j : Nat} : kTe E S j = true ↔ kFr E j = true ∧ 50 ≤ kH1 E S j := by
  unfold kTe
  rw [Bool.and_eq_true, decide_eq_true_iff]
def kT1 (E : kEn) (S : kRst) (j : Nat) : Int32 := if kTe E S j then (if S.2.2.2.1 j = -1 then nI S.2.2.2.2.2 else S.2.2.2.1 j) else S.2.2.2.1 j
def kNr (S : kRst) (j k : Nat) : Bool := decide (¬ S.2.2.1 j = -1) && decide (S.2.2.1 j = S.2.2.1 k)
/-- whether one tells another -/
def kTn (E : kEn) (S : kRst) (k : Nat) : Nat → Bool := fun j => kTe E S j && (decide (¬ kIsB (E.2.2.1 j) (nI k) = 0) && !kNr S j k)
theorem kTn_t {E : kEn} {S : kRst} {k j : Nat} : kTn E S k j = true ↔ kTe E S j = true ∧ ¬ kIsB (E.2.2.1 j) (nI k) = 0 ∧ ¬ (¬ S.2.2.1 j = -1 ∧ S.2.2.1 j = S.2.2.1 k) := by
  unfold kTn kNr
  rw [Bool.and_eq_true, Bool.and_eq_true, decide_eq_true_iff, Bool.not_eq_true', Bool.and_eq_false_iff, decide_eq_false_iff_not, decide_eq_false_iff_not]
  constructor
  · intro h
    exact ⟨h.1, h.2.1, fun z => h.2.2.elim (fun y => y z.1) (fun y => y z.2)⟩
  · intro h
    refine ⟨h.1, h.2.1, ?_⟩
    by_cases z : S.2.2.1 j = -1
    · exact Or.inl (fun y => y z)
    · exact Or.inr (fun y => h.2.2 ⟨z, y⟩)
def kHe (E : kEn) (S : kRst) (k n : Nat) : Int32 := kSm (kTn E S k) (fun j => kYy E S 2 j) n
def kH2 (E : kEn) (S : kRst) (j : Nat) : Int32 := if kFr E j then kWi (kH1 E S j + kHe E S j E.1) else kH1 E S j
def kDr (x : Int64) : Int64 := x * 6364136223846793005 + 1442695040888963407
def kRv (x : Int64) : Int64 := (x.toUInt64 >>> ((33 : Int32).toInt64.toUInt64 &&& Int64.toUInt64 63)).toInt64
def kRm (x : Int64) : Int64 := kRv x - kRv x / 100 * 100
def kGo (x : Int64) (g : Int32) : Bool := decide (lg_cmp (kRm x) (Int32.toInt64 g) < 0)
def kMay (E : kEn) (S : kRst) (j : Nat) : Bool := kFr E j && decide (¬ S.2.2.1 j = -1)
theorem kMay_t {E : kEn} {S : kRst} {j : Nat} : kMay E S j = true ↔ kFr E j = true ∧ ¬ S.2.2.1 j = -1 := by
  unfold kMay
  rw [Bool.and_eq_true, decide_eq_true_iff]
def kGh (E : kEn) (S : kRst) : Nat → Int64 × (Nat → Int32)
  | 0 => (S.2.2.2.2.1, S.2.2.1)
  | n + 1 => if kMay E S n then (kDr (kGh E S n).1, if kGo (kDr (kGh E S n).1) (kYy E S 1 n) then upd (kGh E S n).2 n (-1) else (kGh E S n).2) else kGh E S n
theorem kGh_hi {E : kEn} {S : kRst} : ∀ n q : Nat, n ≤ q → (kGh E S n).2 q = S.2.2.1 q := by
  intro n
  induction n with
  | zero => intro q _; rfl
  | succ n ih =>
    intro q hq
    have e := ih q (by omega)
    unfold kGh
    split
    · show (if kGo (kDr (kGh E S n).1) (kYy E S 1 n) then upd (kGh E S n).2 n (-1) else (kGh E S n).2) q = _
      split
      · rw [pk_un (by omega)]; exact e
      · exact e
    · exact e
theorem kGh_or {E : kEn} {S : kRst} : ∀ n q : Nat, (kGh E S n).2 q = S.2.2.1 q ∨ (kGh E S n).2 q = -1 := by
  intro n
  induction n with
  | zero => intro q; exact Or.inl rfl
  | succ n ih =>
    intro q
    have e := ih q
    unfold kGh
    split
    · show (if kGo (kDr (kGh E S n).1) (kYy E S 1 n) then upd (kGh E S n).2 n (-1) else (kGh E S n).2) q = _ ∨ (if kGo (kDr (kGh E S n).1) (kYy E S 1 n) then upd (kGh E S n).2 n (-1) else (kGh E S n).2) q = _
      split
      · by_cases z : q = n
        · exact Or.inr (by rw [z, pk_us])
        · rw [pk_un z]; exact e
      · exact e
    · exact e
/-- one hour -/
def kStp (E : kEn) (S : kRst) : kRst := (kH2 E S, S.2.1, (kGh E S E.1).2, kT1 E S, (kGh E S E.1).1, S.2.2.2.2.2 + 1)
def kIt (E : kEn) : Nat → kRst → kRst
  | 0, S => S
  | n + 1, S => kStp E (kIt E n S)
theorem kIt_hr (E : kEn) (S : kRst) : ∀ n : Nat, (kIt E n S).2.2.2.2.2 = S.2.2.2.2.2 + n := by
  intro n
  induction n with
  | zero => rfl
  | succ n ih => show (kIt E n S).2.2.2.2.2 + 1 = _; rw [ih]; omega
/-- within bounds -/
def kOk (ks : Nat) (S : kRst) : Prop := ∀ j : Nat, j < ks → (0 ≤ (S.1 j).toInt ∧ (S.1 j).toInt ≤ 100) ∧ (0 ≤ (S.2.1 j).toInt ∧ (S.2.1 j).toInt ≤ 99) ∧ (S.2.2.1 j = -1 ∨ ∃ v : Nat, v < 4 ∧ S.2.2.1 j = nI v)
theorem kOk_stp {E : kEn} {S : kRst} {ks : Nat} (h : kOk ks S) : kOk ks (kStp E S) := by
  intro j hj
  obtain ⟨h1, h2, h3⟩ := h j hj
  refine ⟨?_, h2, ?_⟩
  · show 0 ≤ (kH2 E S j).toInt ∧ (kH2 E S j).toInt ≤ 100
    unfold kH2
    split
    · exact kWi_b _
    · unfold kH1
      split
      · exact kWi_b _
      · exact h1
  · show (kGh E S E.1).2 j = -1 ∨ ∃ v : Nat, v < 4 ∧ (kGh E S E.1).2 j = nI v
    rcases kGh_or (E := E) (S := S) E.1 j with e | e
    · rw [e]; exact h3
    · exact Or.inl e
theorem kOk_it {E : kEn} {S : kRst} {ks : Nat} (h : kOk ks S) : ∀ n : Nat, kOk ks (kIt E n S) := by
  intro n
  induction n with
  | zero => exact h
  | succ n ih => exact kOk_stp ih
/-- arrays that hold a run -/
def kRp (ks : Nat) (S : kRst) (h p l t : Nat → Int32) : Prop := ∀ j : Nat, j < ks → h j = S.1 j ∧ p j = S.2.1 j ∧ l j = S.2.2.1 j ∧ t j = S.2.2.2.1 j
theorem kIsB_01 (a b : Int32) : kIsB a b = 0 ∨ kIsB a b = 1 := by unfold kIsB; split; exact Or.inl rfl; exact Or.inr rfl
theorem kDivB {a b : Int32} {M : Int} (ha : 0 ≤ a.toInt ∧ a.toInt ≤ M) (hM : M ≤ 1000000) : -1000000 ≤ (a / b).toInt ∧ (a / b).toInt ≤ 1000000 := by
  have hd : (a.toInt.tdiv b.toInt).natAbs ≤ a.toInt.natAbs := by rw [Int.natAbs_tdiv]; exact Nat.div_le_self _ _
  have h : (a / b).toInt = a.toInt.tdiv b.toInt := by
    rw [Int32.toInt_div]
    exact Int.bmod_eq_of_le (by omega) (by omega)
  rw [h]
  omega
theorem kSm_ge {c : Nat → Bool} {f : Nat → Int32} {n : Nat} (hn : n ≤ 20) (h : ∀ o : Nat, o < n → 0 ≤ (f o).toInt ∧ (f o).toInt ≤ 1000) : kBd (kSm c f n) := by
  have e := kSm_b (c := c) (M := 1000) (Nat.le_refl _) n hn h
  unfold kBd
  omega
theorem kBd_n {v : Nat} (h : v ≤ 1000000) : kBd (nI v) := by
  unfold kBd
  rw [nI_toInt (by omega)]
  omega
theorem kLa_b {f : Nat → Int32} {h : Int32} : ∀ n : Nat, (∀ i : Nat, i < n → 0 ≤ (f i).toInt ∧ (f i).toInt ≤ 47) → -1 ≤ (kLa f h n).toInt ∧ (kLa f h n).toInt ≤ 47 := by
  intro n
  induction n with
  | zero => intro _; exact (by decide : -1 ≤ (-1 : Int32).toInt ∧ (-1 : Int32).toInt ≤ 47)
  | succ n ih =>
    intro hf
    have e := ih (fun i hi => hf i (by omega))
    have e2 := hf n (by omega)
    unfold kLa
    split
    · split
      · omega
      · exact e
    · exact e
/-- a run's letters are small -/
theorem kLe_b {E : kEn} {S : kRst} {j : Nat} (hk : E.1 ≤ 10) (hw : E.2.1 ≤ 4) (hr : S.2.2.2.2.2 ≤ 48) (ho : kOk E.1 S) (hj : j < E.1) (hs : ∀ o : Nat, E.2.2.2.2.1 o = 0 ∨ E.2.2.2.2.1 o = 1) (hf : ∀ i : Nat, i < E.2.1 → 0 ≤ (E.2.2.2.1 i).toInt ∧ (E.2.2.2.1 i).toInt ≤ 47) : ∀ k : Nat, kBd (kLe E S j k) := by
  intro k
  obtain ⟨h1, h2, _⟩ := ho j hj
  have h11 : (1 : Int32).toInt = 1 := by decide
  have h10 : (0 : Int32).toInt = 0 := by decide
  have hh : ∀ c : Nat → Bool, 0 ≤ (kSm c S.1 E.1).toInt ∧ (kSm c S.1 E.1).toInt ≤ (100 : Nat) * E.1 := fun c => kSm_b (M := 100) (by decide) E.1 (by omega) (fun o ho2 => by have := (ho o ho2).1; omega)
  unfold kLe
  split
  · unfold kBd; omega
  · split
    · unfold kBd; omega
    · split
      · unfold kNn
        split
        · exact kBd0
        · exact kSm_ge (by omega) (fun o _ => by rw [h11]; omega)
      · split
        · split
          · exact kBd0
          · unfold kNh
            split
            · exact kDivB (M := 0) (by rw [h10]; omega) (by omega)
            · have := hh (kBut j (kIh E S (S.2.2.1 j)))
              exact kDivB (M := 1000) (by omega) (by omega)
        · split
          · unfold kNse
            split
            · exact kBd0
            · exact kSm_ge (by omega) (fun o _ => by rcases hs o with z | z <;> (rw [z]; omega))
          · split
            · unfold kUu
              exact kSm_ge (by omega) (fun o _ => by rw [h11]; omega)
            · split
              · unfold kDd
                split
                · exact kBd0
                · have e := kLa_b (h := nI S.2.2.2.2.2) E.2.1 hf
                  have e2 := nI_toInt (n := S.2.2.2.2.2) (by omega)
                  unfold kBd
                  have e3 : (nI S.2.2.2.2.2 - kLa E.2.2.2.1 (nI S.2.2.2.2.2) E.2.1).toInt = (nI S.2.2.2.2.2).toInt - (kLa E.2.2.2.1 (nI S.2.2.2.2.2) E.2.1).toInt := by
                    rw [Int32.toInt_sub]
                    exact Int.bmod_eq_of_le (by omega) (by omega)
                  rw [e3]
                  omega
              · exact kBd_n (by omega)
theorem kFiU {f f1 : Nat → Int32} {i : Nat} {v : Int32} (hi : i < 2 ^ 31) (e : f1 = upd f (Int32.toNatClampNeg (nI i)) v) (H : ∀ j : Nat, j < i → f j = v) : ∀ j : Nat, j < i + 1 → f1 j = v := fun j hj => by
  rw [e, nI_clamp hi]
  by_cases z : j = i
  · rw [z, pk_us]
  · rw [pk_un z]; exact H j (by omega)
/-- one place more of a row is as told -/
theorem kRoU {f f1 a b : Nat → Int32} {i n : Nat} {v : Int32} (hi : i < 2 ^ 31) (e : f1 = upd f (Int32.toNatClampNeg (nI i)) v) (hv : v = a i) (H : ∀ j : Nat, j < n → f j = if j < i then a j else b j) : ∀ j : Nat, j < n → f1 j = if j < i + 1 then a j else b j := fun j hj => by
  rw [e, nI_clamp hi]
  by_cases z : j = i
  · rw [z, pk_us, if_pos (Nat.lt_succ_self i)]; exact hv
  · rw [pk_un z, H j hj]
    by_cases y : j < i
    · rw [if_pos y, if_pos (by omega)]
    · rw [if_neg y, if_neg (by omega)]
theorem kRoS {f a b : Nat → Int32} {i n : Nat} (hv : a i = b i) (H : ∀ j : Nat, j < n → f j = if j < i then a j else b j) : ∀ j : Nat, j < n → f j = if j < i + 1 then a j else b j := fun j hj => by
  rw [H j hj]
  by_cases z : j = i
  · rw [z, if_neg (Nat.lt_irrefl i), if_pos (Nat.lt_succ_self i), hv]
  · by_cases y : j < i
    · rw [if_pos y, if_pos (by omega)]
    · rw [if_neg y, if_neg (by omega)]
theorem kRo0 {f a b : Nat → Int32} {n : Nat} (H : ∀ j : Nat, j < n → f j = b j) : ∀ j : Nat, j < n → f j = if j < 0 then a j else b j := fun j hj => by rw [if_neg (Nat.not_lt_zero j)]; exact H j hj
theorem kRoE {f a b : Nat → Int32} {i n : Nat} (hi : n ≤ i) (H : ∀ j : Nat, j < n → f j = if j < i then a j else b j) : ∀ j : Nat, j < n → f j = a j := fun j hj => by rw [H j hj, if_pos (by omega)]
theorem kRoI {f a b : Nat → Int32} {i n : Nat} (hi : i < n) (H : ∀ j : Nat, j < n → f j = if j < i then a j else b j) : f i = b i := by rw [H i hi, if_neg (Nat.lt_irrefl i)]
/-- the tallies of the houses -/
theorem kTaU {f f1 : Nat → Int32} {c : Nat → Nat → Bool} {g : Nat → Int32} {v i : Nat} {y x w : Int32} (hv : v < 4) (e : f1 = upd f (Int32.toNatClampNeg (nI v)) y) (ey : y = x + w) (ex : x = f (Int32.toNatClampNeg (nI v))) (hw : w = g i) (hc : ∀ q : Nat, q < 4 → (c q i = true ↔ q = v)) (H : ∀ q : Nat, q < 4 → f q = kSm (c q) g i) : ∀ q : Nat, q < 4 → f1 q = kSm (c q) g (i + 1) := fun q hq => by
  rw [nI_clamp (by omega)] at e ex
  rw [e]
  by_cases z : q = v
  · subst z
    rw [pk_us, kSm_t ((hc q hq).mpr rfl), ey, ex, H q hq, hw]
  · rw [pk_un z, kSm_f (fun t => z ((hc q hq).mp t))]
    exact H q hq
theorem kTaS {f : Nat → Int32} {c : Nat → Nat → Bool} {g : Nat → Int32} {i : Nat} (hc : ∀ q : Nat, q < 4 → ¬ c q i = true) (H : ∀ q : Nat, q < 4 → f q = kSm (c q) g i) : ∀ q : Nat, q < 4 → f q = kSm (c q) g (i + 1) := fun q hq => by
  rw [kSm_f (hc q hq)]
  exact H q hq
theorem kIh_v {E : kEn} {S : kRst} {i v : Nat} (hB : ¬ E.2.2.2.2.2.1 i = 0) (hl : S.2.2.1 i = nI v) (hv : v < 4) : ∀ q : Nat, q < 4 → (kIh E S (nI q) i = true ↔ q = v) := fun q hq => by
  rw [kIh_t, hl]
  constructor
  · intro h; exact (keq (a := v) (b := q) (by omega) (by omega) h.2).symm
  · intro h; exact ⟨hB, by rw [h]⟩
theorem kIh_b {E : kEn} {S : kRst} {i : Nat} (hB : E.2.2.2.2.2.1 i = 0) : ∀ q : Nat, q < 4 → ¬ kIh E S (nI q) i = true := fun q _ h => (kIh_t.mp h).1 hB
theorem kIh_m {E : kEn} {S : kRst} {i : Nat} (hl : S.2.2.1 i = -1) : ∀ q : Nat, q < 4 → ¬ kIh E S (nI q) i = true := fun q hq h => by
  have h2 := (kIh_t.mp h).2
  rw [hl] at h2
  have h3 := nI_toInt (n := q) (by omega)
  rw [← h2] at h3
  have h4 : ((-1 : Int32)).toInt = -1 := by decide
  rw [h4] at h3
  omega
theorem kIn03 {v : Nat} (h : v < 4) : ¬ kIn (nI v) 0 3 = 0 := by
  rcases (show v = 0 ∨ v = 1 ∨ v = 2 ∨ v = 3 by omega) with z | z | z | z <;> (rw [z]; decide)
theorem kInm1 : kIn (-1) 0 3 = 0 := by decide
/-- the tallies as one fact -/
def kTal (E : kEn) (S : kRst) (a b c : Nat → Int32) (n : Nat) : Prop := (∀ q : Nat, q < 4 → a q = kSm (kIh E S (nI q)) (fun _ => 1) n) ∧ (∀ q : Nat, q < 4 → b q = kSm (kIh E S (nI q)) S.1 n) ∧ (∀ q : Nat, q < 4 → c q = kSm (kIh E S (nI q)) E.2.2.2.2.1 n)
theorem kOthers {E : kEn} {S : kRst} {j v : Nat} {f : Nat → Int32} (hj : j < E.1) (hB : ¬ E.2.2.2.2.2.1 j = 0) (hl : S.2.2.1 j = nI v) : kSm (kIh E S (nI v)) f E.1 - f j = kSm (kBut j (kIh E S (S.2.2.1 j))) f E.1 := by
  rw [hl, kSm_out (c := kIh E S (nI v)) (f := f) (kIh_t.mpr ⟨hB, hl⟩) E.1 hj]
  exact Int32.add_sub_cancel _ _
theorem kNeM4 {v : Nat} (h : v < 4) : ¬ (nI v) = -1 := fun z => by
  have h3 := nI_toInt (n := v) (by omega)
  rw [z] at h3
  have h4 : ((-1 : Int32)).toInt = -1 := by decide
  rw [h4] at h3
  omega
theorem kPos0 {x : Int32} (h : 0 ≤ x.toInt) (c : x ≤ 0) : x = 0 := Int32.toInt_inj.mp (by
  have h2 := Int32.le_iff_toInt_le.mp c
  have h3 : (0 : Int32).toInt = 0 := by decide
  rw [h3] at h2 ⊢
  omega)
theorem kNn_0 {E : kEn} {S : kRst} {j : Nat} (hk : E.1 ≤ 10) : 0 ≤ (kNn E S j).toInt := by
  unfold kNn
  split
  · decide
  · exact (kSm_b (M := 1) (by decide) E.1 (by omega) (fun o _ => ⟨by decide, by decide⟩)).1
/-- whom nobody bars from changing: moved is there and not sent -/
def kMv (E : kEn) (ks : Nat) (mo : Int32) : Prop := ∀ j : Nat, j < ks → (¬ kIsB mo (nI j) = 0 ↔ kFr E j = true)
/-- what the law is worth to each that may change -/
def kWg (E : kEn) (S : kRst) (n : Nat) (y x g : Nat → Int32) : Prop := ∀ j : Nat, j < n → kFr E j = true → y j = kYy E S 0 j ∧ (¬ E.2.2.1 j = 0 → x j = kYy E S 2 j) ∧ (¬ S.2.2.1 j = -1 → g j = kYy E S 1 j)
theorem kIsB_z (b : Int32) : kIsB 0 b = 0 := by
  unfold kIsB
  rw [if_pos]
  apply Int32.toBitVec_inj.mp
  show BitVec.sshiftRight 0#32 _ &&& 1#32 = 0#32
  rw [BitVec.zero_sshiftRight, BitVec.zero_and]
theorem kIn_01 (a b c : Int32) : kIn a b c = 0 ∨ kIn a b c = 1 := by
  unfold kIn
  split
  · exact Or.inl rfl
  · split
    · exact Or.inl rfl
    · exact Or.inr rfl
theorem kIsB_ne {r a b : Int32} (h : r = kIsB a b) (c : ¬ r = 0) : kIsB a b = 1 := by
  rcases kIsB_01 a b with z | z
  · exact absurd (h.trans z) c
  · exact z
theorem kNn_v {E : kEn} {S : kRst} {j v : Nat} {x y : Int32} (hj : j < E.1) (hB : ¬ E.2.2.2.2.2.1 j = 0) (hl : S.2.2.1 j = nI v) (hv : v < 4) (ex : x = y - 1) (hy : y = kSm (kIh E S (nI v)) (fun _ => 1) E.1) : x = kNn E S j := by
  unfold kNn
  rw [if_neg (by rw [hl]; exact kNeM4 hv), ← kOthers (f := fun _ => 1) hj hB hl, ex, hy]
theorem kNh_v {E : kEn} {S : kRst} {j v : Nat} {x y w : Int32} (hj : j < E.1) (hB : ¬ E.2.2.2.2.2.1 j = 0) (hl : S.2.2.1 j = nI v) (hv : v < 4) (ex : x = y - w) (hw : w = S.1 j) (hy : y = kSm (kIh E S (nI v)) S.1 E.1) : x = kNh E S j := by
  unfold kNh
  rw [if_neg (by rw [hl]; exact kNeM4 hv), ← kOthers (f := S.1) hj hB hl, ex, hy, hw]
theorem kNse_v {E : kEn} {S : kRst} {j v : Nat} {x y w : Int32} (hj : j < E.1) (hB : ¬ E.2.2.2.2.2.1 j = 0) (hl : S.2.2.1 j = nI v) (hv : v < 4) (ex : x = y - w) (hw : w = E.2.2.2.2.1 j) (hy : y = kSm (kIh E S (nI v)) E.2.2.2.2.1 E.1) : x = kNse E S j := by
  unfold kNse
  rw [if_neg (by rw [hl]; exact kNeM4 hv), ← kOthers (f := E.2.2.2.2.1) hj hB hl, ex, hy, hw]
theorem kLe_3z {E : kEn} {S : kRst} {j : Nat} {x : Int32} (hk : E.1 ≤ 10) (h : x = kNn E S j) (c : x ≤ 0) : (0 : Int32) = kLe E S j 3 := by
  have h2 : kNn E S j = 0 := by rw [← h]; exact kPos0 (by rw [h]; exact kNn_0 hk) c
  show (0 : Int32) = if kNn E S j = 0 then 0 else kNh E S j / kNn E S j
  rw [if_pos h2]
theorem kLe_3p {E : kEn} {S : kRst} {j : Nat} {x y d : Int32} (h : x = kNn E S j) (hh : y = kNh E S j) (c : ¬ x ≤ 0) (e : d = y / x) : d = kLe E S j 3 := by
  have h2 : ¬ kNn E S j = 0 := fun z => c (by rw [h, z]; decide)
  show d = if kNn E S j = 0 then 0 else kNh E S j / kNn E S j
  rw [if_neg h2, e, h, hh]
theorem kNn_m {E : kEn} {S : kRst} {j : Nat} (hl : S.2.2.1 j = -1) : (0 : Int32) = kNn E S j := (if_pos hl).symm
theorem kNse_m {E : kEn} {S : kRst} {j : Nat} (hl : S.2.2.1 j = -1) : (0 : Int32) = kNse E S j := (if_pos hl).symm
theorem kLe5 {E : kEn} {S : kRst} {j : Nat} {l f1 f2 f3 f4 f5 : Nat → Int32} {a b c d g : Int32} (h1 : f1 = upd l 0 a) (h2 : f2 = upd f1 1 b) (h3 : f3 = upd f2 2 c) (h4 : f4 = upd f3 3 d) (h5 : f5 = upd f4 4 g) (va : a = S.1 j) (vb : b = S.2.1 j) (vc : c = kNn E S j) (vd : d = kLe E S j 3) (vg : g = kNse E S j) : (∀ k : Nat, k < 5 → f5 k = kLe E S j k) ∧ (∀ k : Nat, 5 ≤ k → f5 k = l k) := by
  constructor
  · intro k hk
    rcases (show k = 0 ∨ k = 1 ∨ k = 2 ∨ k = 3 ∨ k = 4 by omega) with z | z | z | z | z
    · rw [z, h5, pk_un (by omega), h4, pk_un (by omega), h3, pk_un (by omega), h2, pk_un (by omega), h1, pk_us]; exact va
    · rw [z, h5, pk_un (by omega), h4, pk_un (by omega), h3, pk_un (by omega), h2, pk_us]; exact vb
    · rw [z, h5, pk_un (by omega), h4, pk_un (by omega), h3, pk_us]; exact vc
    · rw [z, h5, pk_un (by omega), h4, pk_us]; exact vd
    · rw [z, h5, pk_us]; exact vg
  · intro k hk
    rw [h5, pk_un (by omega), h4, pk_un (by omega), h3, pk_un (by omega), h2, pk_un (by omega), h1, pk_un (by omega)]
/-- the letters of the hour -/
def kHL (E : kEn) (S : kRst) (l : Nat → Int32) : Prop := l 5 = kUu E S ∧ l 6 = kDd E S ∧ l 7 = nI S.2.2.2.2.2
theorem kHL3 {E : kEn} {S : kRst} {l f1 f2 f3 : Nat → Int32} {a b c : Int32} (h1 : f1 = upd l 5 a) (h2 : f2 = upd f1 6 b) (h3 : f3 = upd f2 7 c) (va : a = kUu E S) (vb : b = kDd E S) (vc : c = nI S.2.2.2.2.2) : kHL E S f3 := by
  refine ⟨?_, ?_, ?_⟩
  · rw [h3, pk_un (by omega), h2, pk_un (by omega), h1, pk_us]; exact va
  · rw [h3, pk_un (by omega), h2, pk_us]; exact vb
  · rw [h3, pk_us]; exact vc
theorem kHL_k {E : kEn} {S : kRst} {l f : Nat → Int32} (h : kHL E S l) (hr : ∀ k : Nat, 5 ≤ k → f k = l k) : kHL E S f := ⟨(hr 5 (by omega)).trans h.1, (hr 6 (by omega)).trans h.2.1, (hr 7 (by omega)).trans h.2.2⟩
theorem kLe8 {E : kEn} {S : kRst} {j : Nat} {f l : Nat → Int32} (h5 : ∀ k : Nat, k < 5 → f k = kLe E S j k) (hr : ∀ k : Nat, 5 ≤ k → f k = l k) (h : kHL E S l) : ∀ k : Nat, k < 8 → f k = kLe E S j k := fun k hk => by
  by_cases z : k < 5
  · exact h5 k z
  · rw [hr k (by omega)]
    rcases (show k = 5 ∨ k = 6 ∨ k = 7 by omega) with y | y | y
    · rw [y]; exact h.1
    · rw [y]; exact h.2.1
    · rw [y]; exact h.2.2
theorem kWgU {E : kEn} {S : kRst} {i : Nat} {y x g y1 x1 g1 : Nat → Int32} {a b c : Int32} (hi : i < 2 ^ 31) (ey : y1 = upd y (Int32.toNatClampNeg (nI i)) a) (ex : x1 = upd x (Int32.toNatClampNeg (nI i)) b) (eg : g1 = upd g (Int32.toNatClampNeg (nI i)) c) (ha : a = kYy E S 0 i) (hb : ¬ E.2.2.1 i = 0 → b = kYy E S 2 i) (hc : ¬ S.2.2.1 i = -1 → c = kYy E S 1 i) (H : kWg E S i y x g) : kWg E S (i + 1) y1 x1 g1 := fun j hj hf => by
  rw [nI_clamp hi] at ey ex eg
  rw [ey, ex, eg]
  by_cases z : j = i
  · rw [z, pk_us, pk_us, pk_us]; exact ⟨ha, hb, hc⟩
  · rw [pk_un z, pk_un z, pk_un z]; exact H j (by omega) hf
theorem kWgS {E : kEn} {S : kRst} {i : Nat} {y x g : Nat → Int32} (hf : ¬ kFr E i = true) (H : kWg E S i y x g) : kWg E S (i + 1) y x g := fun j hj hf2 => by
  by_cases z : j = i
  · rw [z] at hf2; exact absurd hf2 hf
  · exact H j (by omega) hf2
theorem kYy_of {E : kEn} {S : kRst} {j lab : Nat} {f : Nat → Int32} {r : Int32} {N : Nat} (h : ∀ k : Nat, k < 8 → f k = kLe E S j k) (hg : ∀ z ∈ E.2.2.2.2.2.2, kGdC N 8 z) (hr : r = kWoT f lab E.2.2.2.2.2.2) : r = kYy E S lab j := by
  unfold kYy
  rw [hr]
  exact kWoT_c h _ hg
theorem kH1_p {E : kEn} {S : kRst} {i : Nat} {r x a b : Int32} (hf : kFr E i = true) (hr : r = (if x < 0 then 0 else if 100 < x then 100 else x)) (ex : x = a + b) (ha : a = S.1 i) (hb : b = kYy E S 0 i) : r = kH1 E S i := by
  unfold kH1
  rw [if_pos hf, hr, ex, ha, hb]
  rfl
theorem kH1_n {E : kEn} {S : kRst} {i : Nat} (hf : ¬ kFr E i = true) : kH1 E S i = S.1 i := if_neg hf
theorem kH2_p {E : kEn} {S : kRst} {i : Nat} {r x a b : Int32} (hf : kFr E i = true) (hr : r = (if x < 0 then 0 else if 100 < x then 100 else x)) (ex : x = a + b) (ha : a = kH1 E S i) (hb : b = kHe E S i E.1) : r = kH2 E S i := by
  unfold kH2
  rw [if_pos hf, hr, ex, ha, hb]
  rfl
theorem kH2_n {E : kEn} {S : kRst} {i : Nat} (hf : ¬ kFr E i = true) : kH2 E S i = kH1 E S i := if_neg hf
/-- what one tells to those it knows -/
def kTk1 (fk : Nat → Int32) (S : kRst) (j : Nat) (e : Nat → Int32) (x : Int32) : Nat → Int32 := fun k => if ¬ kIsB (fk j) (nI k) = 0 ∧ ¬ (¬ S.2.2.1 j = -1 ∧ S.2.2.1 j = S.2.2.1 k) then e k + x else e k
theorem kTk1_0 {fk : Nat → Int32} {S : kRst} {j k : Nat} {e : Nat → Int32} {x : Int32} (h : kIsB (fk j) (nI k) = 0) : kTk1 fk S j e x k = e k := if_neg (fun z => z.1 h)
theorem kTk1_n {fk : Nat → Int32} {S : kRst} {j k : Nat} {e : Nat → Int32} {x : Int32} (h1 : ¬ S.2.2.1 j = -1) (h2 : S.2.2.1 j = S.2.2.1 k) : kTk1 fk S j e x k = e k := if_neg (fun z => z.2 ⟨h1, h2⟩)
theorem kTk1_t {fk : Nat → Int32} {S : kRst} {j k : Nat} {e : Nat → Int32} {x y a b : Int32} (h : ¬ kIsB (fk j) (nI k) = 0) (h2 : ¬ (¬ S.2.2.1 j = -1 ∧ S.2.2.1 j = S.2.2.1 k)) (ey : y = a + b) (ha : a = e k) (hb : b = x) : y = kTk1 fk S j e x k := by
  unfold kTk1
  rw [if_pos ⟨h, h2⟩, ey, ha, hb]
/-- the row of what each hears, one teller more -/
theorem kHeU {E : kEn} {S : kRst} {i : Nat} {f f1 : Nat → Int32} {x : Int32} (ht : kTe E S i = true) (H : ∀ k : Nat, k < E.1 → f k = kHe E S k i) (h1 : ∀ k : Nat, k < E.1 → f1 k = kTk1 E.2.2.1 S i f x k) (hx : ¬ E.2.2.1 i = 0 → x = kYy E S 2 i) : ∀ k : Nat, k < E.1 → f1 k = kHe E S k (i + 1) := fun k hk => by
  rw [h1 k hk]
  unfold kTk1
  by_cases z : ¬ kIsB (E.2.2.1 i) (nI k) = 0 ∧ ¬ (¬ S.2.2.1 i = -1 ∧ S.2.2.1 i = S.2.2.1 k)
  · have hz : ¬ E.2.2.1 i = 0 := fun y => z.1 (by rw [y]; exact kIsB_z _)
    rw [if_pos z, H k hk, hx hz]
    exact (kSm_t (kTn_t.mpr ⟨ht, z⟩)).symm
  · rw [if_neg z, H k hk]
    exact (kSm_f (fun y => z (kTn_t.mp y).2)).symm
theorem kHeS {E : kEn} {S : kRst} {i : Nat} {f : Nat → Int32} (ht : ¬ kTe E S i = true) (H : ∀ k : Nat, k < E.1 → f k = kHe E S k i) : ∀ k : Nat, k < E.1 → f k = kHe E S k (i + 1) := fun k hk => by
  rw [H k hk]
  exact (kSm_f (fun y => ht (kTn_t.mp y).1)).symm
theorem kT1_n {E : kEn} {S : kRst} {i : Nat} (ht : ¬ kTe E S i = true) : kT1 E S i = S.2.2.2.1 i := if_neg ht
theorem kT1_s {E : kEn} {S : kRst} {i : Nat} (ht : kTe E S i = true) (h : ¬ S.2.2.2.1 i = -1) : kT1 E S i = S.2.2.2.1 i := by
  unfold kT1
  rw [if_pos ht, if_neg h]
theorem kT1_h {E : kEn} {S : kRst} {i : Nat} {v : Int32} (ht : kTe E S i = true) (h : S.2.2.2.1 i = -1) (hv : v = nI S.2.2.2.2.2) : v = kT1 E S i := by
  unfold kT1
  rw [if_pos ht, if_pos h, hv]
theorem kGhS {E : kEn} {S : kRst} {i : Nat} (h : ¬ kMay E S i = true) : kGh E S (i + 1) = kGh E S i := if_neg h
theorem kGhT {E : kEn} {S : kRst} {i : Nat} (h : kMay E S i = true) : kGh E S (i + 1) = (kDr (kGh E S i).1, if kGo (kDr (kGh E S i).1) (kYy E S 1 i) then upd (kGh E S i).2 i (-1) else (kGh E S i).2) := if_pos h
/-- one draw -/
theorem kGoX {x v q a w m : Int64} {g r : Int32} (em : m = x * 6364136223846793005) (ea : a = m + 1442695040888963407) (ev : v = (a.toUInt64 >>> ((33 : Int32).toInt64.toUInt64 &&& Int64.toUInt64 63)).toInt64) (eq : q = v - v / 100 * 100) (ew : w = Int32.toInt64 g) (er : r = lg_cmp q w) : a = kDr x ∧ (kGo (kDr x) g = true ↔ r < 0) := by
  have h1 : a = kDr x := by rw [ea, em]; rfl
  refine ⟨h1, ?_⟩
  unfold kGo
  rw [decide_eq_true_iff, ← h1]
  have h2 : q = kRm a := by rw [eq, ev]; rfl
  rw [← h2, ← ew, ← er]
theorem kGhU {f f1 g : Nat → Int32} {i n : Nat} (hi : i < 2 ^ 31) (e : f1 = upd f (Int32.toNatClampNeg (nI i)) (-1)) (H : ∀ j : Nat, j < n → f j = g j) : ∀ j : Nat, j < n → f1 j = upd g i (-1) j := fun j hj => by
  rw [e, nI_clamp hi]
  by_cases z : j = i
  · rw [z, pk_us, pk_us]
  · rw [pk_un z, pk_un z]; exact H j hj
theorem nI_add1 (n : Nat) : nI n + 1 = nI (n + 1) := nI_add n 1
/-- everybody, and those who are there -/
def kEvb (ks : Nat) : Int32 := ((1 : Int32) <<< (nI ks &&& 31)) - 1
def kPrs (ks : Nat) (ab : Int32) : Int32 := kEvb ks &&& (ab ^^^ (-1))
abbrev kE0 (ks kw : Nat) (g3 g4 : Nat → Int32) (sv : Nat) (pr : Int32) (t : List kTr) : kEn := (ks, kw, g3, g4, (fun j => kIsB (nI sv) (nI j)), (fun j => kIsB pr (nI j)), t)
abbrev kS0 (g0 g1 g2 : Nat → Int32) (x : Int64) : kRst := (g0, g1, g2, (fun _ => -1), x, 0)
theorem kSh1 (x : BitVec 32) (n : Nat) (hb : x.getLsbD n = true) (h : n < 32) : (x.sshiftRight n) &&& 1#32 = 1#32 := by
  ext i hi
  simp only [BitVec.getElem_and, BitVec.getElem_sshiftRight]
  by_cases h0 : i = 0
  · subst h0
    rw [dif_pos (by omega)]
    have e1 : x[n + 0] = true := by
      show x[n] = true
      rw [← BitVec.getLsbD_eq_getElem]; exact hb
    rw [e1]; rfl
  · have h2 : (1#32)[i] = false := by
      rw [← BitVec.getLsbD_eq_getElem]
      have : ∀ j : Fin 32, j.val ≠ 0 → (1#32).getLsbD j.val = false := by decide
      exact this ⟨i, hi⟩ h0
    rw [h2, Bool.and_false]
theorem kSh0 (x : BitVec 32) (n : Nat) (hb : x.getLsbD n = false) (h : n < 32) : (x.sshiftRight n) &&& 1#32 = 0#32 := by
  ext i hi
  simp only [BitVec.getElem_and, BitVec.getElem_sshiftRight, BitVec.getElem_zero]
  by_cases h0 : i = 0
  · subst h0
    rw [dif_pos (by omega)]
    have e1 : x[n + 0] = false := by
      show x[n] = false
      rw [← BitVec.getLsbD_eq_getElem]; exact hb
    rw [e1]; rfl
  · have h2 : (1#32)[i] = false := by
      rw [← BitVec.getLsbD_eq_getElem]
      have : ∀ j : Fin 32, j.val ≠ 0 → (1#32).getLsbD j.val = false := by decide
      exact this ⟨i, hi⟩ h0
    rw [h2, Bool.and_false]
theorem kAn31 : ∀ k : Fin 32, nI k.val &&& 31 = nI k.val := by decide +kernel
theorem kSm32 : ∀ k : Fin 32, ((nI k.val).toBitVec.smod 32#32).toNat = k.val := by decide +kernel
theorem kShB (x : Int32) {j : Nat} (hj : j < 32) : (x >>> (nI j &&& 31) &&& 1).toBitVec = (x.toBitVec.sshiftRight j) &&& 1#32 := by
  rw [kAn31 ⟨j, hj⟩]
  show (BitVec.sshiftRight x.toBitVec ((nI j).toBitVec.smod 32#32).toNat) &&& 1#32 = _
  rw [kSm32 ⟨j, hj⟩]
theorem kIsB_bit (x : Int32) {j : Nat} (hj : j < 32) : (kIsB x (nI j) = 0 ↔ x.toBitVec.getLsbD j = false) := by
  unfold kIsB
  cases hb : x.toBitVec.getLsbD j with
  | false =>
    have e : x >>> (nI j &&& 31) &&& 1 = 0 := Int32.toBitVec_inj.mp (by rw [kShB x hj]; exact kSh0 _ _ hb hj)
    rw [if_pos e]
    exact ⟨fun _ => rfl, fun _ => rfl⟩
  | true =>
    have e : x >>> (nI j &&& 31) &&& 1 = 1 := Int32.toBitVec_inj.mp (by rw [kShB x hj]; exact kSh1 _ _ hb hj)
    have e2 : ¬ x >>> (nI j &&& 31) &&& 1 = 0 := fun z => absurd (e.symm.trans z) (by decide)
    rw [if_neg e2]
    exact ⟨fun z => absurd z (by decide), fun z => absurd z (by decide)⟩
theorem kIsB_and {a b : Int32} {j : Nat} (hj : j < 32) : (¬ kIsB (a &&& (b ^^^ (-1))) (nI j) = 0 ↔ ¬ kIsB a (nI j) = 0 ∧ kIsB b (nI j) = 0) := by
  rw [kIsB_bit _ hj, kIsB_bit _ hj, kIsB_bit _ hj]
  have e1 : (a &&& (b ^^^ (-1))).toBitVec = a.toBitVec &&& (b.toBitVec ^^^ BitVec.allOnes 32) := rfl
  rw [e1, BitVec.getLsbD_and, BitVec.getLsbD_xor, BitVec.getLsbD_allOnes, decide_eq_true hj]
  cases a.toBitVec.getLsbD j <;> cases b.toBitVec.getLsbD j <;> decide
theorem kPfU {f f1 a : Nat → Int32} {i : Nat} {v : Int32} (hi : i < 2 ^ 31) (e : f1 = upd f (Int32.toNatClampNeg (nI i)) v) (hv : v = a i) (H : ∀ j : Nat, j < i → f j = a j) : ∀ j : Nat, j < i + 1 → f1 j = a j := fun j hj => by
  rw [e, nI_clamp hi]
  by_cases z : j = i
  · rw [z, pk_us]; exact hv
  · rw [pk_un z]; exact H j (by omega)
/-- one put in less, one elsewhere -/
theorem kRp_put {ks j : Nat} {S : kRst} {h p l t p1 : Nat → Int32} {v : Int32} (H : kRp ks S h p l t) (e : p1 = upd p j v) : kRp ks (S.1, upd S.2.1 j v, S.2.2.1, S.2.2.2.1, S.2.2.2.2.1, S.2.2.2.2.2) h p1 l t := fun q hq => by
  obtain ⟨h1, h2, h3, h4⟩ := H q hq
  refine ⟨h1, ?_, h3, h4⟩
  rw [e]
  show upd p j v q = upd S.2.1 j v q
  by_cases z : q = j
  · rw [z, pk_us, pk_us]
  · rw [pk_un z, pk_un z]; exact h2
theorem kRp_mov {ks j : Nat} {S : kRst} {h p l t l1 : Nat → Int32} {v : Int32} (H : kRp ks S h p l t) (e : l1 = upd l j v) : kRp ks (S.1, S.2.1, upd S.2.2.1 j v, S.2.2.2.1, S.2.2.2.2.1, S.2.2.2.2.2) h p l1 t := fun q hq => by
  obtain ⟨h1, h2, h3, h4⟩ := H q hq
  refine ⟨h1, h2, ?_, h4⟩
  rw [e]
  show upd l j v q = upd S.2.2.1 j v q
  by_cases z : q = j
  · rw [z, pk_us, pk_us]
  · rw [pk_un z, pk_un z]; exact h3
theorem kOk_put {ks j : Nat} {S : kRst} {v : Int32} (H : kOk ks S) (hv : 0 ≤ v.toInt ∧ v.toInt ≤ 99) : kOk ks (S.1, upd S.2.1 j v, S.2.2.1, S.2.2.2.1, S.2.2.2.2.1, S.2.2.2.2.2) := fun q hq => by
  obtain ⟨h1, h2, h3⟩ := H q hq
  refine ⟨h1, ?_, h3⟩
  show 0 ≤ (upd S.2.1 j v q).toInt ∧ (upd S.2.1 j v q).toInt ≤ 99
  by_cases z : q = j
  · rw [z, pk_us]; exact hv
  · rw [pk_un z]; exact h2
theorem kOk_mov {ks j : Nat} {S : kRst} {v : Int32} (H : kOk ks S) (hv : v = -1 ∨ ∃ w : Nat, w < 4 ∧ v = nI w) : kOk ks (S.1, S.2.1, upd S.2.2.1 j v, S.2.2.2.1, S.2.2.2.2.1, S.2.2.2.2.2) := fun q hq => by
  obtain ⟨h1, h2, h3⟩ := H q hq
  refine ⟨h1, h2, ?_⟩
  show upd S.2.2.1 j v q = -1 ∨ ∃ w : Nat, w < 4 ∧ upd S.2.2.1 j v q = nI w
  by_cases z : q = j
  · rw [z, pk_us]; exact hv
  · rw [pk_un z]; exact h3
/-- 99 given back leaves nothing -/
theorem kBack99 {x y z : Int32} (hx : 0 ≤ x.toInt ∧ x.toInt ≤ 99) (ey : y = x - 99) (ez : z = if (0 : Int32) < y then y else 0) : z = 0 := by
  have h99 : (99 : Int32).toInt = 99 := by decide
  have h0 : (0 : Int32).toInt = 0 := by decide
  have h1 : y.toInt = x.toInt - 99 := by
    rw [ey, Int32.toInt_sub, h99]
    exact Int.bmod_eq_of_le (by omega) (by omega)
  rw [ez, if_neg]
  intro h
  have h2 := Int32.lt_iff_toInt_lt.mp h
  omega
/-- what a run answers -/
def kRunV (w : Int32) (F : kRst) (j : Nat) : Int32 := if w = 0 then F.1 j else if w = 1 then F.2.2.1 j else F.2.2.2.1 j
def kRunA (kl ks kw : Nat) (g0 g1 g2 g3 g4 : Nat → Int32) (sv : Nat) (yL : Nat → List kTr) (p0 : Int32) (p1 : Int64) (p2 p3 p4 : Int32) : Int32 := if kPn p0 kl = 0 then -1000 else if kIn p2 0 48 = 0 then -1000 else if kPn p3 ks = 0 then -1000 else if kIn p4 0 2 = 0 then -1000 else kRunV p4 (kIt (kE0 ks kw g3 g4 sv (kPrs ks 0) (yL (Int32.toNatClampNeg p0))) (Int32.toNatClampNeg p2) (kS0 g0 g1 g2 p1)) (Int32.toNatClampNeg p3)
def kDidA (kl ks kw : Nat) (g0 g1 g2 g3 g4 : Nat → Int32) (sv : Nat) (yL : Nat → List kTr) (p0 : Int32) (p1 : Int64) (p2 : Int32) : Int32 := if kPn p0 kl = 0 then -1000 else if kPn p2 ks = 0 then -1000 else if ¬ kIsB (nI sv) p2 = 0 then -1000 else (kIt (kE0 ks kw g3 g4 sv (kPrs ks 0) (yL (Int32.toNatClampNeg p0))) 48 (kS0 g0 g1 g2 p1)).1 (Int32.toNatClampNeg p2) - (kIt (kE0 ks kw g3 g4 sv (kPrs ks (nI sv)) (yL (Int32.toNatClampNeg p0))) 48 (kS0 g0 g1 g2 p1)).1 (Int32.toNatClampNeg p2)
def kLeaS (w : Int32) (S : kRst) (j : Nat) : kRst := if w = 0 then (S.1, upd S.2.1 j 0, S.2.2.1, S.2.2.2.1, S.2.2.2.2.1, S.2.2.2.2.2) else (S.1, S.2.1, upd S.2.2.1 j (-1), S.2.2.2.1, S.2.2.2.2.1, S.2.2.2.2.2)
def kLeaA (kl ks kw : Nat) (g0 g1 g2 g3 g4 : Nat → Int32) (sv : Nat) (yL : Nat → List kTr) (p0 : Int32) (p1 : Int64) (p2 p3 : Int32) : Int32 := if kPn p0 kl = 0 then -1000 else if kPn p2 ks = 0 then -1000 else if ¬ kIsB (nI sv) p2 = 0 then -1000 else if kIn p3 0 1 = 0 then -1000 else (kIt (kE0 ks kw g3 g4 sv (kPrs ks 0) (yL (Int32.toNatClampNeg p0))) 48 (kS0 g0 g1 g2 p1)).1 (Int32.toNatClampNeg p2) - (kIt (kE0 ks kw g3 g4 sv (kPrs ks 0) (yL (Int32.toNatClampNeg p0))) 48 (kLeaS p3 (kS0 g0 g1 g2 p1) (Int32.toNatClampNeg p2))).1 (Int32.toNatClampNeg p2)
/-- whether all these are persons -/
def kHal (ks : Nat) (p : Int32) : Int32 := if p &&& (kEvb ks ^^^ (-1)) = 0 then 1 else 0
theorem kEvb_n {ks : Nat} (h : ks ≤ 10) : kEvb ks = nI (2 ^ ks - 1) := by
  unfold kEvb
  rw [kShl (by omega)]
  exact pk_sub (a := 2 ^ ks) (b := 1) (Nat.one_le_two_pow)
theorem kP10x {n : Nat} (h : n ≤ 10) : 2 ^ n ≤ 1024 := (Nat.pow_le_pow_right (by decide) h : 2 ^ n ≤ 2 ^ 10)
theorem kEvb_b {ks j : Nat} (h : ks ≤ 10) (hj : j < 32) : (kEvb ks).toBitVec.getLsbD j = decide (j < ks) := by
  rw [kEvb_n h]
  show (BitVec.ofNat 32 (2 ^ ks - 1)).getLsbD j = _
  rw [BitVec.getLsbD_ofNat, decide_eq_true hj, Bool.true_and, Nat.testBit_two_pow_sub_one]
theorem kHalB {ks j : Nat} {p : Int32} (h : ks ≤ 10) (hj : j < 32) : (p &&& (kEvb ks ^^^ (-1))).toBitVec.getLsbD j = (p.toBitVec.getLsbD j && !decide (j < ks)) := by
  have e1 : (p &&& (kEvb ks ^^^ (-1))).toBitVec = p.toBitVec &&& ((kEvb ks).toBitVec ^^^ BitVec.allOnes 32) := rfl
  rw [e1, BitVec.getLsbD_and, BitVec.getLsbD_xor, BitVec.getLsbD_allOnes, decide_eq_true hj, kEvb_b h hj, Bool.xor_true]
theorem kHal_ok {ks : Nat} {p : Int32} (h : ks ≤ 10) (h1 : ¬ p < 0) (h2 : ¬ kEvb ks < p) : ¬ kHal ks p = 0 := by
  obtain ⟨a, ha, ea⟩ := nI_of h1
  have h10 := kP10x h
  have h3 : a < 2 ^ ks := by
    rw [kEvb_n h, ea] at h2
    have := knlt (a := 2 ^ ks - 1) (b := a) (by omega) ha h2
    have := Nat.one_le_two_pow (n := ks)
    omega
  unfold kHal
  rw [if_pos]
  · decide
  · apply Int32.toBitVec_inj.mp
    apply BitVec.eq_of_getLsbD_eq
    intro j hj
    rw [kHalB h hj, ea]
    show ((BitVec.ofNat 32 a).getLsbD j && !decide (j < ks)) = (0#32).getLsbD j
    rw [BitVec.getLsbD_ofNat, decide_eq_true hj, Bool.true_and, BitVec.getLsbD_zero]
    by_cases z : j < ks
    · rw [decide_eq_true z]; simp
    · rw [Nat.testBit_lt_two_pow (Nat.lt_of_lt_of_le h3 (Nat.pow_le_pow_right (by decide) (by omega)))]; rfl
theorem kHal_y {ks : Nat} {p : Int32} (h : ks ≤ 10) (hh : ¬ kHal ks p = 0) : ¬ p < 0 ∧ ¬ kEvb ks < p := by
  unfold kHal at hh
  by_cases hz : p &&& (kEvb ks ^^^ (-1)) = 0
  · have hb : ∀ j : Nat, ks ≤ j → p.toBitVec.toNat.testBit j = false := fun j hj => by
      by_cases hj2 : j < 32
      · have h3 := kHalB (p := p) h hj2
        rw [hz, decide_eq_false (by omega : ¬ j < ks), Bool.not_false, Bool.and_true] at h3
        have h4 : (0 : Int32).toBitVec.getLsbD j = false := by show (0#32).getLsbD j = false; exact BitVec.getLsbD_zero
        rw [h4] at h3
        exact h3.symm
      · exact Nat.testBit_lt_two_pow (Nat.lt_of_lt_of_le p.toBitVec.isLt (Nat.pow_le_pow_right (by decide) (by omega)))
    have hlt : p.toBitVec.toNat < 2 ^ ks := Nat.lt_pow_two_of_testBit _ hb
    have h10 := kP10x h
    have ep : p = nI p.toBitVec.toNat := Int32.toBitVec_inj.mp (by show p.toBitVec = BitVec.ofNat 32 p.toBitVec.toNat; rw [BitVec.ofNat_toNat, BitVec.setWidth_eq])
    constructor
    · rw [ep]; exact nI_pos (by omega)
    · rw [kEvb_n h, ep]
      intro z
      have := klt (a := 2 ^ ks - 1) (b := p.toBitVec.toNat) (by omega) (by omega) z
      omega
  · rw [if_neg hz] at hh; exact absurd rfl hh
def kWitA (kl ks kw : Nat) (g0 g1 g2 g3 g4 : Nat → Int32) (sv : Nat) (yL : Nat → List kTr) (p0 : Int32) (p1 : Int64) (p2 p3 : Int32) : Int32 := if kPn p0 kl = 0 then -1000 else if kPn p3 ks = 0 then -1000 else if kHal ks p2 = 0 then -1000 else if ¬ kIsB p2 p3 = 0 then -1000 else (kIt (kE0 ks kw g3 g4 sv (kPrs ks p2) (yL (Int32.toNatClampNeg p0))) 48 (kS0 g0 g1 g2 p1)).1 (Int32.toNatClampNeg p3)
theorem kWit_no {kl ks kw : Nat} {g0 g1 g2 g3 g4 : Nat → Int32} {sv : Nat} {yL : Nat → List kTr} {p0 : Int32} {p1 : Int64} {p2 p3 : Int32} (h : kPn p0 kl = 0 ∨ kPn p3 ks = 0 ∨ kHal ks p2 = 0 ∨ ¬ kIsB p2 p3 = 0) : kWitA kl ks kw g0 g1 g2 g3 g4 sv yL p0 p1 p2 p3 = -1000 := by
  unfold kWitA
  by_cases h1 : kPn p0 kl = 0
  · rw [if_pos h1]
  · rw [if_neg h1]
    by_cases h2 : kPn p3 ks = 0
    · rw [if_pos h2]
    · rw [if_neg h2]
      by_cases h3 : kHal ks p2 = 0
      · rw [if_pos h3]
      · rw [if_neg h3]
        by_cases h4 : kIsB p2 p3 = 0
        · exact absurd h4 (h.resolve_left h1 |>.resolve_left h2 |>.resolve_left h3)
        · rw [if_pos h4]
def kHmC (pr : Int32) (S : kRst) : Nat → Bool := fun j => decide (¬ kIsB pr (nI j) = 0) && decide (S.2.2.1 j = -1)
theorem kHmC_t {pr : Int32} {S : kRst} {j : Nat} : kHmC pr S j = true ↔ ¬ kIsB pr (nI j) = 0 ∧ S.2.2.1 j = -1 := by
  unfold kHmC
  rw [Bool.and_eq_true, decide_eq_true_iff, decide_eq_true_iff]
def kGuC (pr : Int32) (S : kRst) : Nat → Bool := fun j => decide (¬ kIsB pr (nI j) = 0) && decide (S.1 j < 20)
theorem kGuC_t {pr : Int32} {S : kRst} {j : Nat} : kGuC pr S j = true ↔ ¬ kIsB pr (nI j) = 0 ∧ S.1 j < 20 := by
  unfold kGuC
  rw [Bool.and_eq_true, decide_eq_true_iff, decide_eq_true_iff]
/-- those of whom c holds, as bits -/
def kBts (c : Nat → Bool) : Nat → Nat
  | 0 => 0
  | n + 1 => if c n then kBts c n ||| 2 ^ n else kBts c n
theorem kBts_t {c : Nat → Bool} {n : Nat} (h : c n = true) : kBts c (n + 1) = kBts c n ||| 2 ^ n := if_pos h
theorem kBts_f {c : Nat → Bool} {n : Nat} (h : ¬ c n = true) : kBts c (n + 1) = kBts c n := if_neg h
theorem kBts_lt (c : Nat → Bool) : ∀ n : Nat, kBts c n < 2 ^ n := by
  intro n
  induction n with
  | zero => exact Nat.one_pos
  | succ n ih =>
    have h1 : 2 ^ n < 2 ^ (n + 1) := by rw [Nat.pow_succ]; have := Nat.one_le_two_pow (n := n); omega
    unfold kBts
    split
    · exact Nat.or_lt_two_pow (by omega) h1
    · omega
theorem kBtsU {c : Nat → Bool} {i : Nat} {x y z : Int32} (hi : i < 31) (hx : x = nI (kBts c i)) (hc : c i = true) (ey : y = (1 : Int32) <<< (nI i &&& 31)) (ez : z = x ||| y) : z = nI (kBts c (i + 1)) := by
  rw [kBts_t hc, ez, hx, ey, kShl hi, nI_or]
theorem kBtsA {c : Nat → Bool} {i : Nat} {x y z : Int32} (hi : i < 31) (hx : x = nI (kBts c i)) (hc : c i = true) (ey : y = (1 : Int32) <<< (nI i &&& 31)) (ez : z = x + y) : z = nI (kBts c (i + 1)) := by
  have h := Nat.two_pow_add_eq_or_of_lt (kBts_lt c i) 1
  rw [Nat.mul_one] at h
  rw [kBts_t hc, ez, hx, ey, kShl hi, Nat.or_comm, ← h, Nat.add_comm]
  exact nI_add _ _
def kAllV (w pr : Int32) (S : kRst) (n : Nat) : Int32 := if w = 0 then kSm (kHmC pr S) (fun _ => 1) n else nI (kBts (kGuC pr S) n)
def kAllA (kl ks kw : Nat) (g0 g1 g2 g3 g4 : Nat → Int32) (sv : Nat) (yL : Nat → List kTr) (p0 : Int32) (p1 : Int64) (p2 p3 : Int32) : Int32 := if kPn p0 kl = 0 then -1 else if kIn p2 0 48 = 0 then -1 else if kIn p3 0 1 = 0 then -1 else kAllV p3 (kPrs ks 0) (kIt (kE0 ks kw g3 g4 sv (kPrs ks 0) (yL (Int32.toNatClampNeg p0))) (Int32.toNatClampNeg p2) (kS0 g0 g1 g2 p1)) ks
theorem kPrs0 (ks : Nat) : kPrs ks 0 = kEvb ks := by
  unfold kPrs
  apply Int32.toBitVec_inj.mp
  show (kEvb ks).toBitVec &&& (0#32 ^^^ BitVec.allOnes 32) = (kEvb ks).toBitVec
  rw [BitVec.zero_xor, BitVec.and_allOnes]
theorem kPrs0_b {ks j : Nat} (h : ks ≤ 10) (hj : j < ks) : ¬ kIsB (kPrs ks 0) (nI j) = 0 := by
  rw [kPrs0, kIsB_bit _ (by omega), kEvb_b h (by omega), decide_eq_true hj]
  decide
theorem kNeMx {n : Nat} (h : n < 2 ^ 31) : ¬ nI n = -1 := fun z => by
  have h1 := nI_toInt h
  rw [z] at h1
  have h2 : ((-1 : Int32)).toInt = -1 := by decide
  rw [h2] at h1
  omega
/-- how many of the first ten bits -/
def kPcN (v : Nat) : Nat → Nat
  | 0 => 0
  | n + 1 => if v.testBit n then kPcN v n + 1 else kPcN v n
def kPc (v : Nat) : Nat := kPcN v 10
def kUs (x k : Int32) : Int32 := (Int32.toUInt32 x >>> (Int32.toUInt32 k &&& Int32.toUInt32 31)).toInt32
def kPw1 (p : Int32) : Int32 := p - (kUs p 1 &&& 1431655765)
def kPw2 (p : Int32) : Int32 := (p &&& 858993459) + (kUs p 2 &&& 858993459)
def kPw3 (p : Int32) : Int32 := (p + kUs p 4) &&& 252645135
def kPw4 (p : Int32) : Int32 := p + kUs p 8
def kPw5 (p : Int32) : Int32 := p + kUs p 16
theorem kPcF : ∀ v : Fin 1024, kPw5 (kPw4 (kPw3 (kPw2 (kPw1 (nI v.val))))) &&& 63 = nI (kPc v.val) := by decide +kernel
theorem kPcN_le (v : Nat) : ∀ n : Nat, kPcN v n ≤ n := by
  intro n
  induction n with
  | zero => exact Nat.le_refl 0
  | succ n ih =>
    unfold kPcN
    split <;> omega
theorem kPc_le (v : Nat) : kPc v ≤ 10 := kPcN_le v 10
theorem kPcN_s {v w : Nat} (h : ∀ i : Nat, v.testBit i = true → w.testBit i = true) : ∀ n : Nat, kPcN v n ≤ kPcN w n := by
  intro n
  induction n with
  | zero => exact Nat.le_refl 0
  | succ n ih =>
    unfold kPcN
    by_cases z : v.testBit n = true
    · rw [if_pos z, if_pos (h n z)]; omega
    · rw [if_neg z]
      split <;> omega
theorem kPcP : ∀ v : Fin 1024, v.val = 0 ∨ 1 ≤ kPc v.val := by decide +kernel
theorem kPc_pos {v : Nat} (h : v < 1024) (h0 : 1 ≤ v) : 1 ≤ kPc v := (kPcP ⟨v, h⟩).resolve_left (by show ¬ v = 0; omega)
theorem kPc_0 : kPc 0 = 0 := by decide
/-- the lower of two sets -/
def kLwI (a b : Int32) : Int32 := if a &&& (a ^^^ b) &&& -(a ^^^ b) = 0 then 0 else 1
def kLw (a b : Nat) : Bool := decide (¬ kLwI (nI a) (nI b) = 0)
def kLkC (P : Nat → Bool) (s n : Nat) (o : Option Nat) : Bool := P n && decide (kPc n = s) && (match o with | none => true | some b => kLw n b)
/-- the best set of a size, so far -/
def kLkS (P : Nat → Bool) (s : Nat) : Nat → Option Nat
  | 0 => none
  | n + 1 => if kLkC P s n (kLkS P s n) then some n else kLkS P s n
theorem kLkS_t {P : Nat → Bool} {s n : Nat} (h : kLkC P s n (kLkS P s n) = true) : kLkS P s (n + 1) = some n := if_pos h
theorem kLkS_f {P : Nat → Bool} {s n : Nat} (h : ¬ kLkC P s n (kLkS P s n) = true) : kLkS P s (n + 1) = kLkS P s n := if_neg h
theorem kLkC_off {P : Nat → Bool} {s n : Nat} {o : Option Nat} (h : P n = false ∨ ¬ kPc n = s) : ¬ kLkC P s n o = true := by
  unfold kLkC
  rcases h with z | z
  · rw [z, Bool.false_and, Bool.false_and]; decide
  · rw [decide_eq_false z, Bool.and_false, Bool.false_and]; decide
theorem kLkS_pc {P : Nat → Bool} {s b : Nat} : ∀ n : Nat, kLkS P s n = some b → kPc b = s ∧ b < n := by
  intro n
  induction n with
  | zero => intro h; cases h
  | succ n ih =>
    intro h
    by_cases c : kLkC P s n (kLkS P s n) = true
    · rw [kLkS_t c] at h
      have e := Option.some.inj h
      unfold kLkC at c
      rw [Bool.and_eq_true, Bool.and_eq_true] at c
      rw [← e]
      exact ⟨of_decide_eq_true c.1.2, by omega⟩
    · rw [kLkS_f c] at h
      have := ih h
      exact ⟨this.1, by omega⟩
/-- the best of the largest size that has one -/
def kLkO (P : Nat → Bool) (n : Nat) : Nat → Nat
  | 0 => 0
  | s + 1 => (kLkS P (s + 1) n).getD (kLkO P n s)
theorem kLkO_pc (P : Nat → Bool) (n : Nat) : ∀ S : Nat, kPc (kLkO P n S) ≤ S := by
  intro S
  induction S with
  | zero => show kPc 0 ≤ 0; rw [kPc_0]; omega
  | succ S ih =>
    show kPc ((kLkS P (S + 1) n).getD (kLkO P n S)) ≤ S + 1
    cases hs : kLkS P (S + 1) n with
    | none => show kPc (kLkO P n S) ≤ S + 1; omega
    | some b => show kPc b ≤ S + 1; rw [(kLkS_pc n hs).1]; omega
theorem kLkO_f {P : Nat → Bool} {n : Nat} (hP : P n = false) : ∀ S : Nat, kLkO P (n + 1) S = kLkO P n S := by
  intro S
  induction S with
  | zero => rfl
  | succ S ih =>
    show (kLkS P (S + 1) (n + 1)).getD (kLkO P (n + 1) S) = (kLkS P (S + 1) n).getD (kLkO P n S)
    rw [kLkS_f (kLkC_off (Or.inl hP)), ih]
theorem kLkO_t {P : Nat → Bool} {n : Nat} (hP : P n = true) (ht : 1 ≤ kPc n) : ∀ S : Nat, kLkO P (n + 1) S = if kPc n ≤ S then (if kPc (kLkO P n S) < kPc n ∨ (kPc n = kPc (kLkO P n S) ∧ kLw n (kLkO P n S) = true) then n else kLkO P n S) else kLkO P n S := by
  intro S
  induction S with
  | zero => rw [if_neg (by omega)]; rfl
  | succ S ih =>
    have hO : kLkO P n (S + 1) = (kLkS P (S + 1) n).getD (kLkO P n S) := rfl
    show (kLkS P (S + 1) (n + 1)).getD (kLkO P (n + 1) S) = _
    by_cases h1 : kPc n = S + 1
    · rw [if_pos (by omega)]
      cases hs : kLkS P (S + 1) n with
      | none =>
        have hc : kLkC P (S + 1) n (kLkS P (S + 1) n) = true := by
          rw [hs]; unfold kLkC; rw [hP, decide_eq_true h1]; rfl
        have hq := kLkO_pc P n S
        rw [kLkS_t hc, hO, hs]
        show n = if kPc (kLkO P n S) < kPc n ∨ (kPc n = kPc (kLkO P n S) ∧ kLw n (kLkO P n S) = true) then n else kLkO P n S
        rw [if_pos (Or.inl (by omega))]
      | some b =>
        have hb := (kLkS_pc n hs).1
        rw [hO, hs]
        show (kLkS P (S + 1) (n + 1)).getD (kLkO P (n + 1) S) = if kPc b < kPc n ∨ (kPc n = kPc b ∧ kLw n b = true) then n else b
        by_cases hl : kLw n b = true
        · have hc : kLkC P (S + 1) n (kLkS P (S + 1) n) = true := by
            rw [hs]; unfold kLkC; rw [hP, decide_eq_true h1]; exact hl
          rw [kLkS_t hc, if_pos (Or.inr ⟨by omega, hl⟩)]; rfl
        · have hc : ¬ kLkC P (S + 1) n (kLkS P (S + 1) n) = true := by
            rw [hs]; unfold kLkC; rw [hP, decide_eq_true h1]; exact hl
          rw [kLkS_f hc, hs, if_neg (fun z => z.elim (fun y => by omega) (fun y => hl y.2))]; rfl
    · rw [kLkS_f (kLkC_off (Or.inr h1)), hO]
      cases hs : kLkS P (S + 1) n with
      | none =>
        show kLkO P (n + 1) S = if kPc n ≤ S + 1 then (if kPc (kLkO P n S) < kPc n ∨ (kPc n = kPc (kLkO P n S) ∧ kLw n (kLkO P n S) = true) then n else kLkO P n S) else kLkO P n S
        rw [ih]
        by_cases h2 : kPc n ≤ S
        · rw [if_pos h2, if_pos (show kPc n ≤ S + 1 by omega)]
        · rw [if_neg h2, if_neg (show ¬ kPc n ≤ S + 1 by omega)]
      | some b =>
        have hb := (kLkS_pc n hs).1
        show b = if kPc n ≤ S + 1 then (if kPc b < kPc n ∨ (kPc n = kPc b ∧ kLw n b = true) then n else b) else b
        by_cases h2 : kPc n ≤ S + 1
        · rw [if_pos h2, if_neg (fun z => z.elim (fun y => by omega) (fun y => by have := y.1; omega))]
        · rw [if_neg h2]
theorem kLkO_1 (P : Nat → Bool) : ∀ S : Nat, kLkO P 1 S = 0 := by
  intro S
  induction S with
  | zero => rfl
  | succ S ih =>
    show (kLkS P (S + 1) 1).getD (kLkO P 1 S) = 0
    rw [kLkS_f (n := 0) (kLkC_off (Or.inr (by rw [kPc_0]; omega))), ih]
    rfl
/-- the best as one pass finds it -/
def kLkR (P : Nat → Bool) : Nat → Nat
  | 0 => 0
  | n + 1 => if decide (1 ≤ n) && P n && (decide (kPc (kLkR P n) < kPc n) || (decide (kPc n = kPc (kLkR P n)) && kLw n (kLkR P n))) then n else kLkR P n
theorem kLkR_f {P : Nat → Bool} {n : Nat} (h : ¬ (P n = true ∧ (kPc (kLkR P n) < kPc n ∨ (kPc n = kPc (kLkR P n) ∧ kLw n (kLkR P n) = true)))) : kLkR P (n + 1) = kLkR P n := if_neg (fun z => h (by
  rw [Bool.and_eq_true, Bool.and_eq_true, Bool.or_eq_true, Bool.and_eq_true, decide_eq_true_iff, decide_eq_true_iff, decide_eq_true_iff] at z
  exact ⟨z.1.2, z.2⟩))
theorem kLkR_t {P : Nat → Bool} {n : Nat} (h1 : 1 ≤ n) (h : P n = true ∧ (kPc (kLkR P n) < kPc n ∨ (kPc n = kPc (kLkR P n) ∧ kLw n (kLkR P n) = true))) : kLkR P (n + 1) = n := if_pos (by
  rw [Bool.and_eq_true, Bool.and_eq_true, Bool.or_eq_true, Bool.and_eq_true, decide_eq_true_iff, decide_eq_true_iff, decide_eq_true_iff]
  exact ⟨⟨h1, h.1⟩, h.2⟩)
theorem kLk_eq {P : Nat → Bool} {S : Nat} : ∀ n : Nat, 1 ≤ n → n ≤ 1024 → (∀ k : Nat, k < n → P k = true → kPc k ≤ S) → kLkR P n = kLkO P n S := by
  intro n
  induction n with
  | zero => intro h; omega
  | succ n ih =>
    intro _ hN H
    by_cases h0 : n = 0
    · subst h0
      rw [kLkO_1]
      rfl
    · have e := ih (by omega) (by omega) (fun k hk => H k (by omega))
      cases hP : P n with
      | false =>
        rw [kLkO_f hP, kLkR_f (fun z => by rw [hP] at z; exact absurd z.1 (by decide))]
        exact e
      | true =>
        rw [kLkO_t hP (kPc_pos (by omega) (by omega)), if_pos (H n (by omega) hP), ← e]
        by_cases c : kPc (kLkR P n) < kPc n ∨ (kPc n = kPc (kLkR P n) ∧ kLw n (kLkR P n) = true)
        · rw [if_pos c, kLkR_t (by omega) ⟨hP, c⟩]
        · rw [if_neg c, kLkR_f (fun z => c z.2)]
theorem kLkO_up {P : Nat → Bool} {a S : Nat} : ∀ n : Nat, a ≤ n → (∀ k : Nat, a ≤ k → k < n → P k = false) → kLkO P n S = kLkO P a S := by
  intro n
  induction n with
  | zero => intro h _; rw [show a = 0 by omega]
  | succ n ih =>
    intro h H
    by_cases z : a = n + 1
    · rw [z]
    · rw [kLkO_f (H n (by omega) (by omega)), ih (by omega) (fun k h1 h2 => H k h1 (by omega))]
/-- a set is part of another -/
theorem kSub_b {n sv : Nat} (hn : n < 1024) (hs : sv < 1024) (h : nI n &&& (nI sv ^^^ (-1)) = 0) : ∀ i : Nat, n.testBit i = true → sv.testBit i = true := fun i hi => by
  by_cases h32 : i < 32
  · have e1 : (nI n &&& (nI sv ^^^ (-1))).toBitVec = BitVec.ofNat 32 n &&& (BitVec.ofNat 32 sv ^^^ BitVec.allOnes 32) := rfl
    have e2 : (BitVec.ofNat 32 n &&& (BitVec.ofNat 32 sv ^^^ BitVec.allOnes 32)).getLsbD i = false := by
      rw [← e1, h]
      show (0#32).getLsbD i = false
      exact BitVec.getLsbD_zero
    rw [BitVec.getLsbD_and, BitVec.getLsbD_xor, BitVec.getLsbD_allOnes, BitVec.getLsbD_ofNat, BitVec.getLsbD_ofNat, decide_eq_true h32, Bool.true_and, Bool.true_and, hi, Bool.true_and, Bool.xor_true] at e2
    cases z : sv.testBit i with
    | true => rfl
    | false => rw [z] at e2; exact absurd e2 (by decide)
  · rw [Nat.testBit_lt_two_pow (Nat.lt_of_lt_of_le hn (show 1024 ≤ 2 ^ i from Nat.le_trans (by decide : 1024 ≤ 2 ^ 10) (Nat.pow_le_pow_right (by decide) (by omega))))] at hi
    exact absurd hi (by decide)
theorem kSub_le {n sv : Nat} (h : ∀ i : Nat, n.testBit i = true → sv.testBit i = true) : n ≤ sv := by
  have e : n &&& sv = n := Nat.eq_of_testBit_eq (fun i => by
    rw [Nat.testBit_and]
    cases z : n.testBit i with
    | true => rw [h i z]; rfl
    | false => rfl)
  rw [← e]
  exact Nat.and_le_right
/-- those, not sent, who hold on -/
def kHoC (E : kEn) (S : kRst) : Nat → Bool := fun j => kFr E j && decide (50 ≤ S.1 j)
theorem kHoC_t {E : kEn} {S : kRst} {j : Nat} : kHoC E S j = true ↔ kFr E j = true ∧ 50 ≤ S.1 j := by
  unfold kHoC
  rw [Bool.and_eq_true, decide_eq_true_iff]
def kHol (ks kw : Nat) (g0 g1 g2 g3 g4 : Nat → Int32) (sv : Nat) (t : List kTr) (p1 : Int64) (ab : Int32) : Int32 := nI (kBts (kHoC (kE0 ks kw g3 g4 sv (kPrs ks ab) t) (kIt (kE0 ks kw g3 g4 sv (kPrs ks ab) t) 48 (kS0 g0 g1 g2 p1))) ks)
def kLkP (ks kw : Nat) (g0 g1 g2 g3 g4 : Nat → Int32) (sv : Nat) (t : List kTr) (p1 : Int64) : Nat → Bool := fun n => decide (nI n &&& (nI sv ^^^ (-1)) = 0) && decide (kHol ks kw g0 g1 g2 g3 g4 sv t p1 (nI sv &&& (nI n ^^^ (-1))) = kHol ks kw g0 g1 g2 g3 g4 sv t p1 (nI sv))
theorem kLkP_t {ks kw : Nat} {g0 g1 g2 g3 g4 : Nat → Int32} {sv : Nat} {t : List kTr} {p1 : Int64} {n : Nat} : kLkP ks kw g0 g1 g2 g3 g4 sv t p1 n = true ↔ nI n &&& (nI sv ^^^ (-1)) = 0 ∧ kHol ks kw g0 g1 g2 g3 g4 sv t p1 (nI sv &&& (nI n ^^^ (-1))) = kHol ks kw g0 g1 g2 g3 g4 sv t p1 (nI sv) := by
  unfold kLkP
  rw [Bool.and_eq_true, decide_eq_true_iff, decide_eq_true_iff]
theorem kLkP_f {ks kw : Nat} {g0 g1 g2 g3 g4 : Nat → Int32} {sv : Nat} {t : List kTr} {p1 : Int64} {n : Nat} (h : ¬ (nI n &&& (nI sv ^^^ (-1)) = 0 ∧ kHol ks kw g0 g1 g2 g3 g4 sv t p1 (nI sv &&& (nI n ^^^ (-1))) = kHol ks kw g0 g1 g2 g3 g4 sv t p1 (nI sv))) : kLkP ks kw g0 g1 g2 g3 g4 sv t p1 n = false := by
  cases z : kLkP ks kw g0 g1 g2 g3 g4 sv t p1 n with
  | false => rfl
  | true => exact absurd (kLkP_t.mp z) h
def kOp : Option Nat → Int32
  | none => -1
  | some b => nI b
theorem kOp_m {P : Nat → Bool} {s n : Nat} {x : Int32} (hn : n ≤ 1024) (hx : x = kOp (kLkS P s n)) (h : x = -1) : kLkS P s n = none := by
  cases hs : kLkS P s n with
  | none => rfl
  | some b =>
    have hb := (kLkS_pc n hs).2
    rw [hx, hs] at h
    exact absurd h (kNeMx (n := b) (by omega))
theorem kOp_s {P : Nat → Bool} {s n : Nat} {x : Int32} (hx : x = kOp (kLkS P s n)) (h : ¬ x = -1) : ∃ b : Nat, kLkS P s n = some b ∧ x = nI b := by
  cases hs : kLkS P s n with
  | none => rw [hs] at hx; exact absurd hx h
  | some b => rw [hs] at hx; exact ⟨b, rfl, hx⟩
theorem kLkU {P : Nat → Bool} {s n : Nat} {x : Int32} (hn : n ≤ 1024) (hx : x = kOp (kLkS P s n)) (hP : P n = true) (hc : kPc n = s) (hb : x = -1 ∨ ¬ kLwI (nI n) x = 0) : nI n = kOp (kLkS P s (n + 1)) := by
  rw [kLkS_t]
  · rfl
  · unfold kLkC
    rw [hP, decide_eq_true hc]
    rcases hb with z | z
    · rw [kOp_m hn hx z]; rfl
    · by_cases y : x = -1
      · rw [kOp_m hn hx y]; rfl
      · obtain ⟨b, e1, e2⟩ := kOp_s hx y
        rw [e1]
        show (true && true && kLw n b) = true
        unfold kLw
        rw [e2] at z
        rw [decide_eq_true z]; rfl
theorem kLkN1 {P : Nat → Bool} {s n : Nat} {x : Int32} (hx : x = kOp (kLkS P s n)) (h : P n = false ∨ ¬ kPc n = s) : x = kOp (kLkS P s (n + 1)) := by rw [kLkS_f (kLkC_off h)]; exact hx
theorem kLkN2 {P : Nat → Bool} {s n : Nat} {x : Int32} (hx : x = kOp (kLkS P s n)) (h : ¬ x = -1) (hl : kLwI (nI n) x = 0) : x = kOp (kLkS P s (n + 1)) := by
  rw [kLkS_f]
  · exact hx
  · obtain ⟨b, e1, e2⟩ := kOp_s hx h
    rw [e1]
    unfold kLkC
    show ¬ (P n && decide (kPc n = s) && kLw n b) = true
    unfold kLw
    rw [e2] at hl
    rw [decide_eq_false (p := ¬ kLwI (nI n) (nI b) = 0) (fun z => z hl), Bool.and_false]
    decide
def kLokA (kl ks kw : Nat) (g0 g1 g2 g3 g4 : Nat → Int32) (sv : Nat) (yL : Nat → List kTr) (p0 : Int32) (p1 : Int64) : Int32 := if kPn p0 kl = 0 then -1 else nI (kLkO (kLkP ks kw g0 g1 g2 g3 g4 sv (yL (Int32.toNatClampNeg p0)) p1) (sv + 1) (kPc sv))
theorem kLkO_n {P : Nat → Bool} {n s : Nat} (h : kLkS P (s + 1) n = none) : kLkO P n (s + 1) = kLkO P n s := by
  show (kLkS P (s + 1) n).getD (kLkO P n s) = kLkO P n s
  rw [h]; rfl
theorem kLkO_s {P : Nat → Bool} {n s b : Nat} (h : kLkS P (s + 1) n = some b) : kLkO P n (s + 1) = b := by
  show (kLkS P (s + 1) n).getD (kLkO P n s) = b
  rw [h]; rfl
/-- the rows of what is told -/
def kPeF (p q u : Int32) (k : Nat) (v : Int32) (f : Nat → Int32) : Nat → Int32 := if kPerN p q u k = k then f else upd f k v
def kKn2 (f : Nat → Int32) (a b : Nat) : Nat → Int32 := upd (upd f a (f a ||| ((1 : Int32) <<< (nI b &&& 31)))) b ((upd f a (f a ||| ((1 : Int32) <<< (nI b &&& 31)))) b ||| ((1 : Int32) <<< (nI a &&& 31)))
def kKnF (p q : Int32) (k : Nat) (f : Nat → Int32) : Nat → Int32 := if kKnow p q k = 0 then f else kKn2 f (Int32.toNatClampNeg p) (Int32.toNatClampNeg q)
def kSayF (p t : Int32) (ks ku : Nat) (f : Nat → Int32) : Nat → Int32 := if kPn p ks = 0 then f else if t = -1 then upd f (Int32.toNatClampNeg p) t else if kPn t ku = 0 then f else upd f (Int32.toNatClampNeg p) t
def kWdF (p : Int32) (k : Nat) (f : Nat → Int32) : Nat → Int32 := if kWordN p k = k then f else upd f k p
