theorem dJ7_fill_53178_0 : decode cJ7_fill_53178 0 = .ok (.iconst 0, 1) := kDs0 kf_3 (by decide +kernel)
theorem dJ7_fill_53178_1 : decode cJ7_fill_53178 1 = .ok (.istore_n 2, 1) := kDs0 kf_61 (by decide +kernel)
theorem dJ7_fill_53178_2 : decode cJ7_fill_53178 2 = .ok (.aload_n 0, 1) := kDs0 kf_42 (by decide +kernel)
theorem dJ7_fill_53178_3 : decode cJ7_fill_53178 3 = .ok (.arraylength, 1) := kDs0 kf_190 (by decide +kernel)
theorem dJ7_fill_53178_4 : decode cJ7_fill_53178 4 = .ok (.istore_n 3, 1) := kDs0 kf_62 (by decide +kernel)
theorem dJ7_fill_53178_5 : decode cJ7_fill_53178 5 = .ok (.iload_n 2, 1) := kDs0 kf_28 (by decide +kernel)
theorem dJ7_fill_53178_6 : decode cJ7_fill_53178 6 = .ok (.iload_n 3, 1) := kDs0 kf_29 (by decide +kernel)
theorem dJ7_fill_53178_7 : decode cJ7_fill_53178 7 = .ok (.if_icmp .ge 13, 3) := kDs4 kf_162 (by decide +kernel)
theorem dJ7_fill_53178_20 : decode cJ7_fill_53178 20 = .ok (.return_, 1) := kDs0 kf_177 (by decide +kernel)
theorem dJ7_fill_53178_10 : decode cJ7_fill_53178 10 = .ok (.aload_n 0, 1) := kDs0 kf_42 (by decide +kernel)
theorem dJ7_fill_53178_11 : decode cJ7_fill_53178 11 = .ok (.iload_n 2, 1) := kDs0 kf_28 (by decide +kernel)
theorem dJ7_fill_53178_12 : decode cJ7_fill_53178 12 = .ok (.iload_n 1, 1) := kDs0 kf_27 (by decide +kernel)
theorem dJ7_fill_53178_13 : decode cJ7_fill_53178 13 = .ok (.iastore, 1) := kDs0 kf_79 (by decide +kernel)
theorem dJ7_fill_53178_14 : decode cJ7_fill_53178 14 = .ok (.iinc 2 1, 3) := kDs5 kf_132 (by decide +kernel)
theorem dJ7_fill_53178_17 : decode cJ7_fill_53178 17 = .ok (.goto (-12), 3) := kDs4 kf_167 (by decide +kernel)
def w_s_fill : List Cond := .code yJ7_fill_53178 cJ7_fill_53178 4 none :: ([])
theorem gw_s_fill : (w_s_fill).all goodWord = true := kGc rfl kGn
theorem hd_J7_fill_53178 : yJ7_fill_53178.cls ≠ "java/lang/invoke/MethodHandle" ∧ yJ7_fill_53178.cls ≠ "java/lang/invoke/VarHandle" ∧ (parseMethodDescriptor yJ7_fill_53178.desc).map (fun d => d.parameters.length) = some 2 := by decide +kernel
set_option maxHeartbeats 4000000 in
set_option maxRecDepth 100000 in
theorem s_fill (l : Launch) (dC : Nat → ClassId) (dI : Nat → Nat → Nat) (ar : Nat) (cI : ClassId) (n : Nat) (g : Nat → Int32) (hn : n ≤ 200) (p0 : Int32) (sz : Nat) : Met l yJ7_fill_53178 w_s_fill ({ frames := 1, cells := 0, slots := 0, locals := 60 }) (kW dC dI [.ref ar, .int p0] [(ar, .inl (cI, n, .inl g))] [(cI, .int)] kT sz) (va_Qv (fun (g1 : (Nat → Int32)) => True) (fun (g1 : (Nat → Int32)) => fun t : State => kB dC dI [(ar, .inl (cI, n, .inl g1))] [(cI, .int)] (va_A [(ar, .inl (cI, n, .inl g))] sz) t) (va_A [(ar, .inl (cI, n, .inl g))] sz)) 0 0 (va_A [(ar, .inl (cI, n, .inl g))] sz) := by
  refine Met.ofW (cc := cJ7_fill_53178) (maxL := 4) (ret := none) (by decide) rfl ?_
  intro p e s m args below meth c s₁ B hml hv
  obtain ⟨rfl, hsz, hP, hK, hD0, hX⟩ := hv
  have hx := B.exec
  have hb := B.bytes
  have hr := B.returns
  have hts := atoms_spec (ws := w_s_fill) B.pre
  have hown : s.vm.findClass RJ7 = some m.cls := findClass_of_methodNamed B.named
  have hlocks := B.notSynchronized
  subst hsz
  have hD := hD0.self (sz := s.heap.size)
  generalize hAe : va_A [(ar, .inl (cI, n, .inl g))] s.heap.size = A at hD ⊢
  have hA : ∀ q : Nat, s.heap.size ≤ q → A q := fun q h => by rw [← hAe]; exact Or.inr h
  have hS : va_S A s.heap s.heap [] := va_S.rf
  have hP : va_P (dC, dI) vwCl [(ar, .inl (cI, n, .inl g))] s.heap := hP
  have hl := lv_entry ([.ref ar, .int p0]) (n := 4) (Nat.le_of_ble_eq_true rfl)
  rw [lg_entry_eq]
  generalize (lg_sl ([.ref ar, .int p0]) ++ List.replicate (4 - (lg_sl ([.ref ar, .int p0])).length) Slot.unset).toArray = ls at hl ⊢
  have hl : lv_has ls 4 [(0, .ref ar), (1, .int p0)] := hl
  refine kQ (fun Q hQ => ?_)
  refine lv_iconst (v := 0) hx hb dJ7_fill_53178_0 kc_i_0 ?_
  refine lv_istore_n hx hb dJ7_fill_53178_1 rfl hl kc_l_2_4 (kTo [(2, .int 0), (0, .ref ar), (1, .int p0)]) (fun ls hl => ?_)
  refine lv_aload_n hx hb dJ7_fill_53178_2 rfl (lv_at hl 1 rfl) ?_
  refine va_alen hx hb hK hP 0 0 rfl rfl (v := nI (n)) rfl dJ7_fill_53178_3 ?_
  refine lv_istore_n hx hb dJ7_fill_53178_4 rfl hl kc_l_3_4 (kTo [(3, .int (nI (n))), (2, .int 0), (0, .ref ar), (1, .int p0)]) (fun ls hl => ?_)
  have lp_k_1 : ∀ (n9 : Nat) (i : Nat) (m9 : Nat → Int32) (ivk_1_0 : i ≤ n) (H : Heap) (locs : List Loc) (_ : va_P (dC, dI) vwCl [(ar, .inl (cI, n, .inl m9))] H) (_ : va_D A [(ar, .inl (cI, n, .inl m9))]) (_ : va_S A s.heap H locs) (ls : Array Slot) (_ : lv_has ls 4 [(3, .int (nI (n))), (2, .int (nI (i))), (0, .ref ar), (1, .int p0)]) (_ : n - i < n9), W p l e (headSpec w_s_fill ({ frames := 1, cells := 0, slots := 0, locals := 60 })).room s m (#[.ref ar, .int p0] : Array Value) below meth c H locs 0 0 Q (F0 m 5 ls []) := by
    intro n9
    induction n9 with
    | zero => intro i m9 ivk_1_0 H locs hP hD hS ls hl hm9; exact absurd hm9 (Nat.not_lt_zero _)
    | succ n9 ih_k_1 =>
      intro i m9 ivk_1_0 H locs hP hD hS ls hl hm9
      refine lv_iload_n hx hb dJ7_fill_53178_5 rfl (lv_at hl 1 rfl) ?_
      refine lv_iload_n hx hb dJ7_fill_53178_6 rfl (lv_at hl 0 rfl) ?_
      refine lv_icmp_ge (tgt := 20) hx hb dJ7_fill_53178_7 kc_t_7_13 (fun c_2 => ?_) (fun c_2 => ?_)
      · have bd_4 : n < 2147483648 := by omega
        have bd_5 : i < 2147483648 := by omega
        have hn_3 := kle (a := n) (b := i) bd_4 bd_5 c_2
        have hP9 := hP
        have hD9 := hD
        have hK9 := hK
        rw [hQ]
        exact W.vret hx hb hr (fun t ht hW => ⟨⟨m9, rfl, trivial,  by rw [ht]; exact hP9, va_K.moved hW.alike hK9, hD9⟩, hS.F ht⟩) hS.2.2 dJ7_fill_53178_20
      · have bd_7 : n < 2147483648 := by omega
        have bd_8 : i < 2147483648 := by omega
        have hn_6 := knle (a := n) (b := i) bd_7 bd_8 c_2
        refine lv_aload_n hx hb dJ7_fill_53178_10 rfl (lv_at hl 2 rfl) ?_
        refine lv_iload_n hx hb dJ7_fill_53178_11 rfl (lv_at hl 1 rfl) ?_
        refine lv_iload_n hx hb dJ7_fill_53178_12 rfl (lv_at hl 3 rfl) ?_
        have bd_10 : i < n := by omega
        refine va_iast hx hb hK hP hD hS 0 0 rfl rfl (vp_in_nI (n := i) (N := n) bd_10 bd_7) dJ7_fill_53178_13 (fun H locs hP hD hS => ?_)
        obtain ⟨f_9, ef_9⟩ : ∃ gg9 : Nat → Int32, gg9 = upd m9 (Int32.toNatClampNeg (nI (i))) p0 := ⟨_, rfl⟩
        have hPD : kPD dC dI A [(ar, .inl (cI, n, .inl f_9))] H := by rw [ef_9]; exact ⟨hP, hD⟩
        have hP := hPD.1
        have hD := hPD.2
        refine lv_iinc (v := nI (i + 1)) hx hb dJ7_fill_53178_14 hl (k := 1) rfl (kInc _ 1) kc_l_2_4 (kTo [(2, .int (nI (i + 1))), (3, .int (nI (n))), (0, .ref ar), (1, .int p0)]) (fun ls hl => ?_)
        refine lv_goto (tgt := 5) hx hb dJ7_fill_53178_17 kc_t_17_m12 ?_
        exact ih_k_1 (i + 1) f_9 (by omega) _ _ hP hD hS ls (lv_sub hl [1, 0, 2, 3] rfl) (by omega)
  exact lp_k_1 (n - 0 + 1) 0 g (by omega) _ _ hP hD hS ls (lv_sub hl [0, 1, 2, 3] rfl) (by omega)

theorem dJ7_fill_d0a16_0 : decode cJ7_fill_d0a16 0 = .ok (.iconst 0, 1) := kDs0 kf_3 (by decide +kernel)
theorem dJ7_fill_d0a16_1 : decode cJ7_fill_d0a16 1 = .ok (.istore_n 3, 1) := kDs0 kf_62 (by decide +kernel)
theorem dJ7_fill_d0a16_2 : decode cJ7_fill_d0a16 2 = .ok (.aload_n 0, 1) := kDs0 kf_42 (by decide +kernel)
theorem dJ7_fill_d0a16_3 : decode cJ7_fill_d0a16 3 = .ok (.arraylength, 1) := kDs0 kf_190 (by decide +kernel)
theorem dJ7_fill_d0a16_4 : decode cJ7_fill_d0a16 4 = .ok (.istore 4, 2) := kDs1 kf_54 (by decide +kernel)
theorem dJ7_fill_d0a16_6 : decode cJ7_fill_d0a16 6 = .ok (.iload_n 3, 1) := kDs0 kf_29 (by decide +kernel)
theorem dJ7_fill_d0a16_7 : decode cJ7_fill_d0a16 7 = .ok (.iload 4, 2) := kDs1 kf_21 (by decide +kernel)
theorem dJ7_fill_d0a16_9 : decode cJ7_fill_d0a16 9 = .ok (.if_icmp .ge 13, 3) := kDs4 kf_162 (by decide +kernel)
theorem dJ7_fill_d0a16_22 : decode cJ7_fill_d0a16 22 = .ok (.return_, 1) := kDs0 kf_177 (by decide +kernel)
theorem dJ7_fill_d0a16_12 : decode cJ7_fill_d0a16 12 = .ok (.aload_n 0, 1) := kDs0 kf_42 (by decide +kernel)
theorem dJ7_fill_d0a16_13 : decode cJ7_fill_d0a16 13 = .ok (.iload_n 3, 1) := kDs0 kf_29 (by decide +kernel)
theorem dJ7_fill_d0a16_14 : decode cJ7_fill_d0a16 14 = .ok (.lload_n 1, 1) := kDs0 kf_31 (by decide +kernel)
theorem dJ7_fill_d0a16_15 : decode cJ7_fill_d0a16 15 = .ok (.lastore, 1) := kDs0 kf_80 (by decide +kernel)
theorem dJ7_fill_d0a16_16 : decode cJ7_fill_d0a16 16 = .ok (.iinc 3 1, 3) := kDs5 kf_132 (by decide +kernel)
theorem dJ7_fill_d0a16_19 : decode cJ7_fill_d0a16 19 = .ok (.goto (-13), 3) := kDs4 kf_167 (by decide +kernel)
def w_s_fillL : List Cond := .code yJ7_fill_d0a16 cJ7_fill_d0a16 5 none :: ([])
theorem gw_s_fillL : (w_s_fillL).all goodWord = true := kGc rfl kGn
theorem hd_J7_fill_d0a16 : yJ7_fill_d0a16.cls ≠ "java/lang/invoke/MethodHandle" ∧ yJ7_fill_d0a16.cls ≠ "java/lang/invoke/VarHandle" ∧ (parseMethodDescriptor yJ7_fill_d0a16.desc).map (fun d => d.parameters.length) = some 2 := by decide +kernel
set_option maxHeartbeats 4000000 in
set_option maxRecDepth 100000 in
theorem s_fillL (l : Launch) (dC : Nat → ClassId) (dI : Nat → Nat → Nat) (ar : Nat) (cI : ClassId) (n : Nat) (g : Nat → Int64) (hn : n ≤ 200) (p0 : Int64) (sz : Nat) : Met l yJ7_fill_d0a16 w_s_fillL ({ frames := 1, cells := 0, slots := 0, locals := 60 }) (kW dC dI [.ref ar, .long p0] [(ar, .inl (cI, n, .inr (.inl g)))] [(cI, .long)] kT sz) (va_Qv (fun (g1 : (Nat → Int64)) => True) (fun (g1 : (Nat → Int64)) => fun t : State => kB dC dI [(ar, .inl (cI, n, .inr (.inl g1)))] [(cI, .long)] (va_A [(ar, .inl (cI, n, .inr (.inl g)))] sz) t) (va_A [(ar, .inl (cI, n, .inr (.inl g)))] sz)) 0 0 (va_A [(ar, .inl (cI, n, .inr (.inl g)))] sz) := by
  refine Met.ofW (cc := cJ7_fill_d0a16) (maxL := 5) (ret := none) (by decide) rfl ?_
  intro p e s m args below meth c s₁ B hml hv
  obtain ⟨rfl, hsz, hP, hK, hD0, hX⟩ := hv
  have hx := B.exec
  have hb := B.bytes
  have hr := B.returns
  have hts := atoms_spec (ws := w_s_fillL) B.pre
  have hown : s.vm.findClass RJ7 = some m.cls := findClass_of_methodNamed B.named
  have hlocks := B.notSynchronized
  subst hsz
  have hD := hD0.self (sz := s.heap.size)
  generalize hAe : va_A [(ar, .inl (cI, n, .inr (.inl g)))] s.heap.size = A at hD ⊢
  have hA : ∀ q : Nat, s.heap.size ≤ q → A q := fun q h => by rw [← hAe]; exact Or.inr h
  have hS : va_S A s.heap s.heap [] := va_S.rf
  have hP : va_P (dC, dI) vwCl [(ar, .inl (cI, n, .inr (.inl g)))] s.heap := hP
  have hl := lv_entry ([.ref ar, .long p0]) (n := 5) (Nat.le_of_ble_eq_true rfl)
  rw [lg_entry_eq]
  generalize (lg_sl ([.ref ar, .long p0]) ++ List.replicate (5 - (lg_sl ([.ref ar, .long p0])).length) Slot.unset).toArray = ls at hl ⊢
  have hl : lv_has ls 5 [(0, .ref ar), (1, .long p0)] := hl
  refine kQ (fun Q hQ => ?_)
  refine lv_iconst (v := 0) hx hb dJ7_fill_d0a16_0 kc_i_0 ?_
  refine lv_istore_n hx hb dJ7_fill_d0a16_1 rfl hl kc_l_3_5 (kTo [(3, .int 0), (0, .ref ar), (1, .long p0)]) (fun ls hl => ?_)
  refine lv_aload_n hx hb dJ7_fill_d0a16_2 rfl (lv_at hl 1 rfl) ?_
  refine va_alen hx hb hK hP 0 0 rfl rfl (v := nI (n)) rfl dJ7_fill_d0a16_3 ?_
  refine lv_istore hx hb dJ7_fill_d0a16_4 hl kc_l_4_5 (kTo [(4, .int (nI (n))), (3, .int 0), (0, .ref ar), (1, .long p0)]) (fun ls hl => ?_)
  have lp_k_1 : ∀ (n9 : Nat) (i : Nat) (m9 : Nat → Int64) (ivk_1_0 : i ≤ n) (H : Heap) (locs : List Loc) (_ : va_P (dC, dI) vwCl [(ar, .inl (cI, n, .inr (.inl m9)))] H) (_ : va_D A [(ar, .inl (cI, n, .inr (.inl m9)))]) (_ : va_S A s.heap H locs) (ls : Array Slot) (_ : lv_has ls 5 [(4, .int (nI (n))), (3, .int (nI (i))), (0, .ref ar), (1, .long p0)]) (_ : n - i < n9), W p l e (headSpec w_s_fillL ({ frames := 1, cells := 0, slots := 0, locals := 60 })).room s m (#[.ref ar, .long p0] : Array Value) below meth c H locs 0 0 Q (F0 m 6 ls []) := by
    intro n9
    induction n9 with
    | zero => intro i m9 ivk_1_0 H locs hP hD hS ls hl hm9; exact absurd hm9 (Nat.not_lt_zero _)
    | succ n9 ih_k_1 =>
      intro i m9 ivk_1_0 H locs hP hD hS ls hl hm9
      refine lv_iload_n hx hb dJ7_fill_d0a16_6 rfl (lv_at hl 1 rfl) ?_
      refine lv_iload hx hb dJ7_fill_d0a16_7 (lv_at hl 0 rfl) ?_
      refine lv_icmp_ge (tgt := 22) hx hb dJ7_fill_d0a16_9 kc_t_9_13 (fun c_2 => ?_) (fun c_2 => ?_)
      · have bd_4 : n < 2147483648 := by omega
        have bd_5 : i < 2147483648 := by omega
        have hn_3 := kle (a := n) (b := i) bd_4 bd_5 c_2
        have hP9 := hP
        have hD9 := hD
        have hK9 := hK
        rw [hQ]
        exact W.vret hx hb hr (fun t ht hW => ⟨⟨m9, rfl, trivial,  by rw [ht]; exact hP9, va_K.moved hW.alike hK9, hD9⟩, hS.F ht⟩) hS.2.2 dJ7_fill_d0a16_22
      · have bd_7 : n < 2147483648 := by omega
        have bd_8 : i < 2147483648 := by omega
        have hn_6 := knle (a := n) (b := i) bd_7 bd_8 c_2
        refine lv_aload_n hx hb dJ7_fill_d0a16_12 rfl (lv_at hl 2 rfl) ?_
        refine lv_iload_n hx hb dJ7_fill_d0a16_13 rfl (lv_at hl 1 rfl) ?_
        refine lv_lload_n hx hb dJ7_fill_d0a16_14 rfl (lv_at hl 3 rfl) ?_
        have bd_10 : i < n := by omega
        refine va_last hx hb hK hP hD hS 0 0 rfl rfl (vp_in_nI (n := i) (N := n) bd_10 bd_7) dJ7_fill_d0a16_15 (fun H locs hP hD hS => ?_)
        obtain ⟨f_9, ef_9⟩ : ∃ gg9 : Nat → Int64, gg9 = vp_updL m9 (Int32.toNatClampNeg (nI (i))) p0 := ⟨_, rfl⟩
        have hPD : kPD dC dI A [(ar, .inl (cI, n, .inr (.inl f_9)))] H := by rw [ef_9]; exact ⟨hP, hD⟩
        have hP := hPD.1
        have hD := hPD.2
        refine lv_iinc (v := nI (i + 1)) hx hb dJ7_fill_d0a16_16 hl (k := 1) rfl (kInc _ 1) kc_l_3_5 (kTo [(3, .int (nI (i + 1))), (4, .int (nI (n))), (0, .ref ar), (1, .long p0)]) (fun ls hl => ?_)
        refine lv_goto (tgt := 6) hx hb dJ7_fill_d0a16_19 kc_t_19_m13 ?_
        exact ih_k_1 (i + 1) f_9 (by omega) _ _ hP hD hS ls (lv_sub hl [1, 0, 2, 3] rfl) (by omega)
  exact lp_k_1 (n - 0 + 1) 0 g (by omega) _ _ hP hD hS ls (lv_sub hl [0, 1, 2, 3] rfl) (by omega)

theorem dX1_heldBy_0 : decode cX1_heldBy 0 = .ok (.aload_n 0, 1) := kDs0 kf_42 (by decide +kernel)
theorem dX1_heldBy_1 : decode cX1_heldBy 1 = .ok (.getfield 67, 3) := kDs2 kf_180 (by decide +kernel)
theorem dX1_heldBy_4 : decode cX1_heldBy 4 = .ok (.iload_n 1, 1) := kDs0 kf_27 (by decide +kernel)
theorem dX1_heldBy_5 : decode cX1_heldBy 5 = .ok (.invokevirtual 94, 3) := kDs2 kf_182 (by decide +kernel)
theorem dX1_heldBy_8 : decode cX1_heldBy 8 = .ok (.ifCond .eq 12, 3) := kDs4 kf_153 (by decide +kernel)
theorem dX1_heldBy_20 : decode cX1_heldBy 20 = .ok (.sipush (-1000), 3) := kDs4 kf_17 (by decide +kernel)
theorem dX1_heldBy_23 : decode cX1_heldBy 23 = .ok (.ireturn, 1) := kDs0 kf_172 (by decide +kernel)
theorem dX1_heldBy_11 : decode cX1_heldBy 11 = .ok (.aload_n 0, 1) := kDs0 kf_42 (by decide +kernel)
theorem dX1_heldBy_12 : decode cX1_heldBy 12 = .ok (.getfield 9, 3) := kDs2 kf_180 (by decide +kernel)
theorem dX1_heldBy_15 : decode cX1_heldBy 15 = .ok (.iload_n 1, 1) := kDs0 kf_27 (by decide +kernel)
theorem dX1_heldBy_16 : decode cX1_heldBy 16 = .ok (.iaload, 1) := kDs0 kf_46 (by decide +kernel)
theorem dX1_heldBy_17 : decode cX1_heldBy 17 = .ok (.goto 6, 3) := kDs4 kf_167 (by decide +kernel)
def w_s_heldBy1 : List Cond := .code yX1_heldBy cX1_heldBy 2 (some .int) :: ([.fieldLink RX1 67 "NotEnded$Course" "folk" "LNotEnded$Folk;", .initialized RX2, .selects RX2 yX2_has yX2_has, .instanceMethod yX2_has, .methodLink RX1 94 yX2_has, .fieldLink RX1 9 "NotEnded$Course" "held" "[I"] ++ (wsX10 ++ (w_s_has2)))
theorem gw_s_heldBy1 : (w_s_heldBy1).all goodWord = true := kGc rfl (kGa (by decide +kernel) (kGa gw_wsX10 gw_s_has2))
theorem hd_X1_heldBy : yX1_heldBy.cls ≠ "java/lang/invoke/MethodHandle" ∧ yX1_heldBy.cls ≠ "java/lang/invoke/VarHandle" ∧ (parseMethodDescriptor yX1_heldBy.desc).map (fun d => d.parameters.length) = some 1 := by decide +kernel
set_option maxHeartbeats 4000000 in
set_option maxRecDepth 100000 in
theorem s_heldBy1 (l : Launch) (dC : Nat → ClassId) (dI : Nat → Nat → Nat) (jC : Nat) (d2 : Nat) (d3 : Nat) (d4 : Nat) (d5 : Nat) (d6 : Nat) (d7 : Nat) (d8 : Nat) (d9 : Nat) (d10 : Nat) (d11 : Nat) (d12 : Nat) (d13 : Nat) (w2 : ClassId) (w3 : ClassId) (w4 : ClassId) (w5 : ClassId) (w6 : ClassId) (w7 : ClassId) (w8 : ClassId) (w9 : ClassId) (w10 : ClassId) (w11 : ClassId) (w12 : ClassId) (w13 : ClassId) (e2 : Nat → Int32) (e3 : Nat → Int32) (e4 : Nat → Int32) (e5 : Nat → Int32) (e6 : Nat → Int32) (e7 : Nat → Int32) (e8 : Nat → Int32) (e9 : Nat → Int32) (e10 : Nat → Int32) (e11 : Nat → Int32) (e12 : Nat → Int32) (e13 : Nat → Int64) (dr : Int64) (pr : Int32) (mo : Int32) (ho : Int32) (hF : Nat) (f0 : Nat) (f1 : Nat) (f2 : Nat) (f3 : Nat) (f4 : Nat) (z0 : ClassId) (z1 : ClassId) (z2 : ClassId) (z3 : ClassId) (z4 : ClassId) (g0 : Nat → Int32) (g1 : Nat → Int32) (g2 : Nat → Int32) (g3 : Nat → Int32) (g4 : Nat → Int32) (sn : Int32) (ks : Nat) (kw : Nat) (hks : ks ≤ 10) (hkw : kw ≤ 4) (jK : Nat) (k0 : Nat) (k1 : Nat) (cK : ClassId) (cO : ClassId) (l0 : Nat → Int32) (l1 : Nat → Int32) (ru : Nat) (sA : Nat) (cl : Nat) (cS : ClassId) (cc : ClassId) (nS : Nat) (nC : Nat) (gS : Nat → Int32) (gC : Nat → Int32) (hnS : nS ≤ 200) (hnC : nC ≤ 200) (A : Nat → Prop) (p0 : Int32) : Met l yX1_heldBy w_s_heldBy1 ({ frames := 3, cells := 0, slots := 0, locals := 180 }) (kR dC dI [.ref jC, .int p0] [(jC, .inr (1, [.ref hF, .ref jK, .ref d2, .ref d3, .ref d4, .ref d5, .ref d6, .ref d7, .ref d8, .ref d9, .ref d10, .ref d11, .ref d12, .ref d13, .ref ru, .long dr, .int pr, .int mo, .int ho])), (d2, .inl (w2, 10, .inl e2)), (d3, .inl (w3, 10, .inl e3)), (d4, .inl (w4, 10, .inl e4)), (d5, .inl (w5, 10, .inl e5)), (d6, .inl (w6, 10, .inl e6)), (d7, .inl (w7, 10, .inl e7)), (d8, .inl (w8, 10, .inl e8)), (d9, .inl (w9, 10, .inl e9)), (d10, .inl (w10, 4, .inl e10)), (d11, .inl (w11, 4, .inl e11)), (d12, .inl (w12, 4, .inl e12)), (d13, .inl (w13, 9, .inr (.inl e13))), (hF, .inr (2, [.ref f0, .ref f1, .ref f2, .ref f3, .ref f4, .int sn, .int (nI (ks)), .int (nI (kw))])), (f0, .inl (z0, 10, .inl g0)), (f1, .inl (z1, 10, .inl g1)), (f2, .inl (z2, 10, .inl g2)), (f3, .inl (z3, 10, .inl g3)), (f4, .inl (z4, 4, .inl g4)), (jK, .inr (5, [.ref k0, .ref k1])), (k0, .inl (cK, 8, .inl l0)), (k1, .inl (cO, 32, .inl l1))] [(w2, .int), (w3, .int), (w4, .int), (w5, .int), (w6, .int), (w7, .int), (w8, .int), (w9, .int), (w10, .int), (w11, .int), (w12, .int), (w13, .long), (z0, .int), (z1, .int), (z2, .int), (z3, .int), (z4, .int), (cK, .int), (cO, .int), (cS, .int), (cc, .int)] (kNF dC dI [(ru, .inr (6, [.ref sA, .ref cl])), (sA, .inl (cS, nS, .inl gS)), (cl, .inl (cc, nC, .inl gC))] A)) (vp_Si (fun r : Int32 => True)) 0 0 (fun _ => False) := by
  refine Met.ofW (cc := cX1_heldBy) (maxL := 2) (ret := (some .int)) (by decide) rfl ?_
  intro p e s m args below meth c s₁ B hml hv
  obtain ⟨rfl, hP, hK, hX⟩ := hv
  have hx := B.exec
  have hb := B.bytes
  have hr := B.returns
  have hts := atoms_spec (ws := w_s_heldBy1) B.pre
  have hown : s.vm.findClass RX1 = some m.cls := findClass_of_methodNamed B.named
  have hlocks := B.notSynchronized
  have hS : va_S A s.heap s.heap [] := va_S.rf
  have hP : va_P (dC, dI) vwCl [(jC, .inr (1, [.ref hF, .ref jK, .ref d2, .ref d3, .ref d4, .ref d5, .ref d6, .ref d7, .ref d8, .ref d9, .ref d10, .ref d11, .ref d12, .ref d13, .ref ru, .long dr, .int pr, .int mo, .int ho])), (d2, .inl (w2, 10, .inl e2)), (d3, .inl (w3, 10, .inl e3)), (d4, .inl (w4, 10, .inl e4)), (d5, .inl (w5, 10, .inl e5)), (d6, .inl (w6, 10, .inl e6)), (d7, .inl (w7, 10, .inl e7)), (d8, .inl (w8, 10, .inl e8)), (d9, .inl (w9, 10, .inl e9)), (d10, .inl (w10, 4, .inl e10)), (d11, .inl (w11, 4, .inl e11)), (d12, .inl (w12, 4, .inl e12)), (d13, .inl (w13, 9, .inr (.inl e13))), (hF, .inr (2, [.ref f0, .ref f1, .ref f2, .ref f3, .ref f4, .int sn, .int (nI (ks)), .int (nI (kw))])), (f0, .inl (z0, 10, .inl g0)), (f1, .inl (z1, 10, .inl g1)), (f2, .inl (z2, 10, .inl g2)), (f3, .inl (z3, 10, .inl g3)), (f4, .inl (z4, 4, .inl g4)), (jK, .inr (5, [.ref k0, .ref k1])), (k0, .inl (cK, 8, .inl l0)), (k1, .inl (cO, 32, .inl l1))] s.heap := hP
  have hl := lv_entry ([.ref jC, .int p0]) (n := 2) (Nat.le_of_ble_eq_true rfl)
  rw [lg_entry_eq]
  generalize (lg_sl ([.ref jC, .int p0]) ++ List.replicate (2 - (lg_sl ([.ref jC, .int p0])).length) Slot.unset).toArray = ls at hl ⊢
  have hl : lv_has ls 2 [(0, .ref jC), (1, .int p0)] := hl
  refine kQ (fun Q hQ => ?_)
  refine lv_aload_n hx hb dX1_heldBy_0 rfl (lv_at hl 0 rfl) ?_
  refine va_get (D := (dC, dI)) (ci := 1) (v := .ref hF) (C := RX1) (T := TX1) (N := 19) hx hb hts (fun _ h => List.mem_cons_of_mem _ (List.mem_append_right _ (List.mem_append_left _ h))) hown hK hP 0 rfl rfl 0 kc_l_0_19 (hts (.fieldLink RX1 67 "NotEnded$Course" "folk" "LNotEnded$Folk;") (List.mem_cons_of_mem _ (List.mem_append_left _ (List.mem_of_getElem? (i := 0) rfl)))) (fun _ h9 => h9) rfl dX1_heldBy_1 ?_
  refine lv_iload_n hx hb dX1_heldBy_4 rfl (lv_at hl 1 rfl) ?_
  have hPc := hP.sb (ws2 := [(hF, .inr (2, [.ref f0, .ref f1, .ref f2, .ref f3, .ref f4, .int sn, .int (nI (ks)), .int (nI (kw))])), (f0, .inl (z0, 10, .inl g0)), (f1, .inl (z1, 10, .inl g1)), (f2, .inl (z2, 10, .inl g2)), (f3, .inl (z3, 10, .inl g3)), (f4, .inl (z4, 4, .inl g4))]) [13, 14, 15, 16, 17, 18] rfl
  have hKc := hK.sb (tys2 := [(z0, .int), (z1, .int), (z2, .int), (z3, .int), (z4, .int)]) [12, 13, 14, 15, 16] rfl
  refine vp_callSi (va_runV (As := [.int p0]) (rest := []) ⟨hx, hb, hml, hown, hts⟩ (s_has2 l dC dI hF f0 f1 f2 f3 f4 z0 z1 z2 z3 z4 g0 g1 g2 g3 g4 sn ks kw hks hkw p0) (cwV 1 hts (kG (List.forall_mem_cons.mpr ⟨(List.mem_cons_of_mem _ (List.mem_append_left _ (List.mem_of_getElem? (i := 4) rfl))), (List.forall_mem_cons.mpr ⟨(List.mem_cons_of_mem _ (List.mem_append_left _ (List.mem_of_getElem? (i := 3) rfl))), (List.forall_mem_cons.mpr ⟨(List.mem_cons_of_mem _ (List.mem_append_left _ (List.mem_of_getElem? (i := 2) rfl))), (List.forall_mem_cons.mpr ⟨(List.mem_cons_of_mem _ (List.mem_append_left _ (List.mem_of_getElem? (i := 1) rfl))), (fun _ h => absurd h List.not_mem_nil)⟩)⟩)⟩)⟩) (kGV _ _ _ _) (fun _ h => List.mem_cons_of_mem _ (List.mem_append_right _ (List.mem_append_right _ h))) gw_s_has2) rfl rfl rfl ⟨rfl, hd_X2_has⟩ ⟨(Nat.le_of_ble_eq_true rfl), (Nat.le_of_ble_eq_true rfl)⟩) (kR_V kT_blind kT_give (va_recv hKc hPc (ci := 2) (q0 := 0) rfl rfl) hPc hKc) rfl rfl hl.1 rfl (lv_room (Nat.le_of_ble_eq_true rfl)) dX1_heldBy_5 ⟨(Nat.le_of_ble_eq_true rfl), (Nat.le_of_ble_eq_true rfl)⟩).run (fun r_1 hw => ?_)
  have hw_2 := hw
  refine lv_if_eq (tgt := 20) hx hb dX1_heldBy_8 kc_t_8_12 (fun c_3 => ?_) (fun c_3 => ?_)
  · refine lv_sipush (v := (-1000)) hx hb dX1_heldBy_20 kc_s_m1000 ?_
    rw [hQ]
    exact W.iret (v := (-1000)) hx hb hr (fun t ht hW => ⟨(-1000), rfl, trivial, ht⟩) (fun _ h => nomatch h) dX1_heldBy_23
  · obtain ⟨j_4, hj_4, ej_4⟩ := hw_2 c_3
    subst ej_4
    refine lv_aload_n hx hb dX1_heldBy_11 rfl (lv_at hl 0 rfl) ?_
    refine va_get (D := (dC, dI)) (ci := 1) (v := .ref d2) (C := RX1) (T := TX1) (N := 19) hx hb hts (fun _ h => List.mem_cons_of_mem _ (List.mem_append_right _ (List.mem_append_left _ h))) hown hK hP 0 rfl rfl 2 kc_l_2_19 (hts (.fieldLink RX1 9 "NotEnded$Course" "held" "[I") (List.mem_cons_of_mem _ (List.mem_append_left _ (List.mem_of_getElem? (i := 5) rfl)))) (fun _ h9 => h9) rfl dX1_heldBy_12 ?_
    refine lv_iload_n hx hb dX1_heldBy_15 rfl (lv_at hl 1 rfl) ?_
    have bd_5 : j_4 < 10 := by omega
    refine va_iald hx hb hK hP 1 0 rfl rfl (vp_in_nI (n := j_4) (N := 10) bd_5 kc_31_10) dX1_heldBy_16 ?_
    refine lv_topi (fun x_6 ex_6 => ?_)
    refine lv_goto (tgt := 23) hx hb dX1_heldBy_17 kc_t_17_6 ?_
    rw [hQ]
    exact W.iret (v := x_6) hx hb hr (fun t ht hW => ⟨x_6, rfl, trivial, ht⟩) (fun _ h => nomatch h) dX1_heldBy_23

theorem dX1_placeOf_0 : decode cX1_placeOf 0 = .ok (.aload_n 0, 1) := kDs0 kf_42 (by decide +kernel)
theorem dX1_placeOf_1 : decode cX1_placeOf 1 = .ok (.getfield 67, 3) := kDs2 kf_180 (by decide +kernel)
theorem dX1_placeOf_4 : decode cX1_placeOf 4 = .ok (.iload_n 1, 1) := kDs0 kf_27 (by decide +kernel)
theorem dX1_placeOf_5 : decode cX1_placeOf 5 = .ok (.invokevirtual 94, 3) := kDs2 kf_182 (by decide +kernel)
theorem dX1_placeOf_8 : decode cX1_placeOf 8 = .ok (.ifCond .eq 12, 3) := kDs4 kf_153 (by decide +kernel)
theorem dX1_placeOf_20 : decode cX1_placeOf 20 = .ok (.sipush (-1000), 3) := kDs4 kf_17 (by decide +kernel)
theorem dX1_placeOf_23 : decode cX1_placeOf 23 = .ok (.ireturn, 1) := kDs0 kf_172 (by decide +kernel)
theorem dX1_placeOf_11 : decode cX1_placeOf 11 = .ok (.aload_n 0, 1) := kDs0 kf_42 (by decide +kernel)
theorem dX1_placeOf_12 : decode cX1_placeOf 12 = .ok (.getfield 18, 3) := kDs2 kf_180 (by decide +kernel)
theorem dX1_placeOf_15 : decode cX1_placeOf 15 = .ok (.iload_n 1, 1) := kDs0 kf_27 (by decide +kernel)
theorem dX1_placeOf_16 : decode cX1_placeOf 16 = .ok (.iaload, 1) := kDs0 kf_46 (by decide +kernel)
theorem dX1_placeOf_17 : decode cX1_placeOf 17 = .ok (.goto 6, 3) := kDs4 kf_167 (by decide +kernel)
def w_s_placeOf1 : List Cond := .code yX1_placeOf cX1_placeOf 2 (some .int) :: ([.fieldLink RX1 67 "NotEnded$Course" "folk" "LNotEnded$Folk;", .initialized RX2, .selects RX2 yX2_has yX2_has, .instanceMethod yX2_has, .methodLink RX1 94 yX2_has, .fieldLink RX1 18 "NotEnded$Course" "places" "[I"] ++ (wsX10 ++ (w_s_has2)))
theorem gw_s_placeOf1 : (w_s_placeOf1).all goodWord = true := kGc rfl (kGa (by decide +kernel) (kGa gw_wsX10 gw_s_has2))
theorem hd_X1_placeOf : yX1_placeOf.cls ≠ "java/lang/invoke/MethodHandle" ∧ yX1_placeOf.cls ≠ "java/lang/invoke/VarHandle" ∧ (parseMethodDescriptor yX1_placeOf.desc).map (fun d => d.parameters.length) = some 1 := by decide +kernel
set_option maxHeartbeats 4000000 in
set_option maxRecDepth 100000 in
theorem s_placeOf1 (l : Launch) (dC : Nat → ClassId) (dI : Nat → Nat → Nat) (jC : Nat) (d2 : Nat) (d3 : Nat) (d4 : Nat) (d5 : Nat) (d6 : Nat) (d7 : Nat) (d8 : Nat) (d9 : Nat) (d10 : Nat) (d11 : Nat) (d12 : Nat) (d13 : Nat) (w2 : ClassId) (w3 : ClassId) (w4 : ClassId) (w5 : ClassId) (w6 : ClassId) (w7 : ClassId) (w8 : ClassId) (w9 : ClassId) (w10 : ClassId) (w11 : ClassId) (w12 : ClassId) (w13 : ClassId) (e2 : Nat → Int32) (e3 : Nat → Int32) (e4 : Nat → Int32) (e5 : Nat → Int32) (e6 : Nat → Int32) (e7 : Nat → Int32) (e8 : Nat → Int32) (e9 : Nat → Int32) (e10 : Nat → Int32) (e11 : Nat → Int32) (e12 : Nat → Int32) (e13 : Nat → Int64) (dr : Int64) (pr : Int32) (mo : Int32) (ho : Int32) (hF : Nat) (f0 : Nat) (f1 : Nat) (f2 : Nat) (f3 : Nat) (f4 : Nat) (z0 : ClassId) (z1 : ClassId) (z2 : ClassId) (z3 : ClassId) (z4 : ClassId) (g0 : Nat → Int32) (g1 : Nat → Int32) (g2 : Nat → Int32) (g3 : Nat → Int32) (g4 : Nat → Int32) (sn : Int32) (ks : Nat) (kw : Nat) (hks : ks ≤ 10) (hkw : kw ≤ 4) (jK : Nat) (k0 : Nat) (k1 : Nat) (cK : ClassId) (cO : ClassId) (l0 : Nat → Int32) (l1 : Nat → Int32) (ru : Nat) (sA : Nat) (cl : Nat) (cS : ClassId) (cc : ClassId) (nS : Nat) (nC : Nat) (gS : Nat → Int32) (gC : Nat → Int32) (hnS : nS ≤ 200) (hnC : nC ≤ 200) (A : Nat → Prop) (p0 : Int32) : Met l yX1_placeOf w_s_placeOf1 ({ frames := 3, cells := 0, slots := 0, locals := 180 }) (kR dC dI [.ref jC, .int p0] [(jC, .inr (1, [.ref hF, .ref jK, .ref d2, .ref d3, .ref d4, .ref d5, .ref d6, .ref d7, .ref d8, .ref d9, .ref d10, .ref d11, .ref d12, .ref d13, .ref ru, .long dr, .int pr, .int mo, .int ho])), (d2, .inl (w2, 10, .inl e2)), (d3, .inl (w3, 10, .inl e3)), (d4, .inl (w4, 10, .inl e4)), (d5, .inl (w5, 10, .inl e5)), (d6, .inl (w6, 10, .inl e6)), (d7, .inl (w7, 10, .inl e7)), (d8, .inl (w8, 10, .inl e8)), (d9, .inl (w9, 10, .inl e9)), (d10, .inl (w10, 4, .inl e10)), (d11, .inl (w11, 4, .inl e11)), (d12, .inl (w12, 4, .inl e12)), (d13, .inl (w13, 9, .inr (.inl e13))), (hF, .inr (2, [.ref f0, .ref f1, .ref f2, .ref f3, .ref f4, .int sn, .int (nI (ks)), .int (nI (kw))])), (f0, .inl (z0, 10, .inl g0)), (f1, .inl (z1, 10, .inl g1)), (f2, .inl (z2, 10, .inl g2)), (f3, .inl (z3, 10, .inl g3)), (f4, .inl (z4, 4, .inl g4)), (jK, .inr (5, [.ref k0, .ref k1])), (k0, .inl (cK, 8, .inl l0)), (k1, .inl (cO, 32, .inl l1))] [(w2, .int), (w3, .int), (w4, .int), (w5, .int), (w6, .int), (w7, .int), (w8, .int), (w9, .int), (w10, .int), (w11, .int), (w12, .int), (w13, .long), (z0, .int), (z1, .int), (z2, .int), (z3, .int), (z4, .int), (cK, .int), (cO, .int), (cS, .int), (cc, .int)] (kNF dC dI [(ru, .inr (6, [.ref sA, .ref cl])), (sA, .inl (cS, nS, .inl gS)), (cl, .inl (cc, nC, .inl gC))] A)) (vp_Si (fun r : Int32 => True)) 0 0 (fun _ => False) := by
  refine Met.ofW (cc := cX1_placeOf) (maxL := 2) (ret := (some .int)) (by decide) rfl ?_
  intro p e s m args below meth c s₁ B hml hv
  obtain ⟨rfl, hP, hK, hX⟩ := hv
  have hx := B.exec
  have hb := B.bytes
  have hr := B.returns
  have hts := atoms_spec (ws := w_s_placeOf1) B.pre
  have hown : s.vm.findClass RX1 = some m.cls := findClass_of_methodNamed B.named
  have hlocks := B.notSynchronized
  have hS : va_S A s.heap s.heap [] := va_S.rf
  have hP : va_P (dC, dI) vwCl [(jC, .inr (1, [.ref hF, .ref jK, .ref d2, .ref d3, .ref d4, .ref d5, .ref d6, .ref d7, .ref d8, .ref d9, .ref d10, .ref d11, .ref d12, .ref d13, .ref ru, .long dr, .int pr, .int mo, .int ho])), (d2, .inl (w2, 10, .inl e2)), (d3, .inl (w3, 10, .inl e3)), (d4, .inl (w4, 10, .inl e4)), (d5, .inl (w5, 10, .inl e5)), (d6, .inl (w6, 10, .inl e6)), (d7, .inl (w7, 10, .inl e7)), (d8, .inl (w8, 10, .inl e8)), (d9, .inl (w9, 10, .inl e9)), (d10, .inl (w10, 4, .inl e10)), (d11, .inl (w11, 4, .inl e11)), (d12, .inl (w12, 4, .inl e12)), (d13, .inl (w13, 9, .inr (.inl e13))), (hF, .inr (2, [.ref f0, .ref f1, .ref f2, .ref f3, .ref f4, .int sn, .int (nI (ks)), .int (nI (kw))])), (f0, .inl (z0, 10, .inl g0)), (f1, .inl (z1, 10, .inl g1)), (f2, .inl (z2, 10, .inl g2)), (f3, .inl (z3, 10, .inl g3)), (f4, .inl (z4, 4, .inl g4)), (jK, .inr (5, [.ref k0, .ref k1])), (k0, .inl (cK, 8, .inl l0)), (k1, .inl (cO, 32, .inl l1))] s.heap := hP
  have hl := lv_entry ([.ref jC, .int p0]) (n := 2) (Nat.le_of_ble_eq_true rfl)
  rw [lg_entry_eq]
  generalize (lg_sl ([.ref jC, .int p0]) ++ List.replicate (2 - (lg_sl ([.ref jC, .int p0])).length) Slot.unset).toArray = ls at hl ⊢
  have hl : lv_has ls 2 [(0, .ref jC), (1, .int p0)] := hl
  refine kQ (fun Q hQ => ?_)
  refine lv_aload_n hx hb dX1_placeOf_0 rfl (lv_at hl 0 rfl) ?_
  refine va_get (D := (dC, dI)) (ci := 1) (v := .ref hF) (C := RX1) (T := TX1) (N := 19) hx hb hts (fun _ h => List.mem_cons_of_mem _ (List.mem_append_right _ (List.mem_append_left _ h))) hown hK hP 0 rfl rfl 0 kc_l_0_19 (hts (.fieldLink RX1 67 "NotEnded$Course" "folk" "LNotEnded$Folk;") (List.mem_cons_of_mem _ (List.mem_append_left _ (List.mem_of_getElem? (i := 0) rfl)))) (fun _ h9 => h9) rfl dX1_placeOf_1 ?_
  refine lv_iload_n hx hb dX1_placeOf_4 rfl (lv_at hl 1 rfl) ?_
  have hPc := hP.sb (ws2 := [(hF, .inr (2, [.ref f0, .ref f1, .ref f2, .ref f3, .ref f4, .int sn, .int (nI (ks)), .int (nI (kw))])), (f0, .inl (z0, 10, .inl g0)), (f1, .inl (z1, 10, .inl g1)), (f2, .inl (z2, 10, .inl g2)), (f3, .inl (z3, 10, .inl g3)), (f4, .inl (z4, 4, .inl g4))]) [13, 14, 15, 16, 17, 18] rfl
  have hKc := hK.sb (tys2 := [(z0, .int), (z1, .int), (z2, .int), (z3, .int), (z4, .int)]) [12, 13, 14, 15, 16] rfl
  refine vp_callSi (va_runV (As := [.int p0]) (rest := []) ⟨hx, hb, hml, hown, hts⟩ (s_has2 l dC dI hF f0 f1 f2 f3 f4 z0 z1 z2 z3 z4 g0 g1 g2 g3 g4 sn ks kw hks hkw p0) (cwV 1 hts (kG (List.forall_mem_cons.mpr ⟨(List.mem_cons_of_mem _ (List.mem_append_left _ (List.mem_of_getElem? (i := 4) rfl))), (List.forall_mem_cons.mpr ⟨(List.mem_cons_of_mem _ (List.mem_append_left _ (List.mem_of_getElem? (i := 3) rfl))), (List.forall_mem_cons.mpr ⟨(List.mem_cons_of_mem _ (List.mem_append_left _ (List.mem_of_getElem? (i := 2) rfl))), (List.forall_mem_cons.mpr ⟨(List.mem_cons_of_mem _ (List.mem_append_left _ (List.mem_of_getElem? (i := 1) rfl))), (fun _ h => absurd h List.not_mem_nil)⟩)⟩)⟩)⟩) (kGV _ _ _ _) (fun _ h => List.mem_cons_of_mem _ (List.mem_append_right _ (List.mem_append_right _ h))) gw_s_has2) rfl rfl rfl ⟨rfl, hd_X2_has⟩ ⟨(Nat.le_of_ble_eq_true rfl), (Nat.le_of_ble_eq_true rfl)⟩) (kR_V kT_blind kT_give (va_recv hKc hPc (ci := 2) (q0 := 0) rfl rfl) hPc hKc) rfl rfl hl.1 rfl (lv_room (Nat.le_of_ble_eq_true rfl)) dX1_placeOf_5 ⟨(Nat.le_of_ble_eq_true rfl), (Nat.le_of_ble_eq_true rfl)⟩).run (fun r_1 hw => ?_)
  have hw_2 := hw
  refine lv_if_eq (tgt := 20) hx hb dX1_placeOf_8 kc_t_8_12 (fun c_3 => ?_) (fun c_3 => ?_)
  · refine lv_sipush (v := (-1000)) hx hb dX1_placeOf_20 kc_s_m1000 ?_
    rw [hQ]
    exact W.iret (v := (-1000)) hx hb hr (fun t ht hW => ⟨(-1000), rfl, trivial, ht⟩) (fun _ h => nomatch h) dX1_placeOf_23
  · obtain ⟨j_4, hj_4, ej_4⟩ := hw_2 c_3
    subst ej_4
    refine lv_aload_n hx hb dX1_placeOf_11 rfl (lv_at hl 0 rfl) ?_
    refine va_get (D := (dC, dI)) (ci := 1) (v := .ref d4) (C := RX1) (T := TX1) (N := 19) hx hb hts (fun _ h => List.mem_cons_of_mem _ (List.mem_append_right _ (List.mem_append_left _ h))) hown hK hP 0 rfl rfl 4 kc_l_4_19 (hts (.fieldLink RX1 18 "NotEnded$Course" "places" "[I") (List.mem_cons_of_mem _ (List.mem_append_left _ (List.mem_of_getElem? (i := 5) rfl)))) (fun _ h9 => h9) rfl dX1_placeOf_12 ?_
    refine lv_iload_n hx hb dX1_placeOf_15 rfl (lv_at hl 1 rfl) ?_
    have bd_5 : j_4 < 10 := by omega
    refine va_iald hx hb hK hP 3 2 rfl rfl (vp_in_nI (n := j_4) (N := 10) bd_5 kc_31_10) dX1_placeOf_16 ?_
    refine lv_topi (fun x_6 ex_6 => ?_)
    refine lv_goto (tgt := 23) hx hb dX1_placeOf_17 kc_t_17_6 ?_
    rw [hQ]
    exact W.iret (v := x_6) hx hb hr (fun t ht hW => ⟨x_6, rfl, trivial, ht⟩) (fun _ h => nomatch h) dX1_placeOf_23

theorem dX1_tellsSince_0 : decode cX1_tellsSince 0 = .ok (.aload_n 0, 1) := kDs0 kf_42 (by decide +kernel)
theorem dX1_tellsSince_1 : decode cX1_tellsSince 1 = .ok (.getfield 67, 3) := kDs2 kf_180 (by decide +kernel)
theorem dX1_tellsSince_4 : decode cX1_tellsSince 4 = .ok (.iload_n 1, 1) := kDs0 kf_27 (by decide +kernel)
theorem dX1_tellsSince_5 : decode cX1_tellsSince 5 = .ok (.invokevirtual 94, 3) := kDs2 kf_182 (by decide +kernel)
theorem dX1_tellsSince_8 : decode cX1_tellsSince 8 = .ok (.ifCond .eq 12, 3) := kDs4 kf_153 (by decide +kernel)
theorem dX1_tellsSince_20 : decode cX1_tellsSince 20 = .ok (.sipush (-1000), 3) := kDs4 kf_17 (by decide +kernel)
theorem dX1_tellsSince_23 : decode cX1_tellsSince 23 = .ok (.ireturn, 1) := kDs0 kf_172 (by decide +kernel)
theorem dX1_tellsSince_11 : decode cX1_tellsSince 11 = .ok (.aload_n 0, 1) := kDs0 kf_42 (by decide +kernel)
theorem dX1_tellsSince_12 : decode cX1_tellsSince 12 = .ok (.getfield 21, 3) := kDs2 kf_180 (by decide +kernel)
theorem dX1_tellsSince_15 : decode cX1_tellsSince 15 = .ok (.iload_n 1, 1) := kDs0 kf_27 (by decide +kernel)
theorem dX1_tellsSince_16 : decode cX1_tellsSince 16 = .ok (.iaload, 1) := kDs0 kf_46 (by decide +kernel)
theorem dX1_tellsSince_17 : decode cX1_tellsSince 17 = .ok (.goto 6, 3) := kDs4 kf_167 (by decide +kernel)
def w_s_tellsSince1 : List Cond := .code yX1_tellsSince cX1_tellsSince 2 (some .int) :: ([.fieldLink RX1 67 "NotEnded$Course" "folk" "LNotEnded$Folk;", .initialized RX2, .selects RX2 yX2_has yX2_has, .instanceMethod yX2_has, .methodLink RX1 94 yX2_has, .fieldLink RX1 21 "NotEnded$Course" "tellsSince" "[I"] ++ (wsX10 ++ (w_s_has2)))
theorem gw_s_tellsSince1 : (w_s_tellsSince1).all goodWord = true := kGc rfl (kGa (by decide +kernel) (kGa gw_wsX10 gw_s_has2))
theorem hd_X1_tellsSince : yX1_tellsSince.cls ≠ "java/lang/invoke/MethodHandle" ∧ yX1_tellsSince.cls ≠ "java/lang/invoke/VarHandle" ∧ (parseMethodDescriptor yX1_tellsSince.desc).map (fun d => d.parameters.length) = some 1 := by decide +kernel
set_option maxHeartbeats 4000000 in
set_option maxRecDepth 100000 in
theorem s_tellsSince1 (l : Launch) (dC : Nat → ClassId) (dI : Nat → Nat → Nat) (jC : Nat) (d2 : Nat) (d3 : Nat) (d4 : Nat) (d5 : Nat) (d6 : Nat) (d7 : Nat) (d8 : Nat) (d9 : Nat) (d10 : Nat) (d11 : Nat) (d12 : Nat) (d13 : Nat) (w2 : ClassId) (w3 : ClassId) (w4 : ClassId) (w5 : ClassId) (w6 : ClassId) (w7 : ClassId) (w8 : ClassId) (w9 : ClassId) (w10 : ClassId) (w11 : ClassId) (w12 : ClassId) (w13 : ClassId) (e2 : Nat → Int32) (e3 : Nat → Int32) (e4 : Nat → Int32) (e5 : Nat → Int32) (e6 : Nat → Int32) (e7 : Nat → Int32) (e8 : Nat → Int32) (e9 : Nat → Int32) (e10 : Nat → Int32) (e11 : Nat → Int32) (e12 : Nat → Int32) (e13 : Nat → Int64) (dr : Int64) (pr : Int32) (mo : Int32) (ho : Int32) (hF : Nat) (f0 : Nat) (f1 : Nat) (f2 : Nat) (f3 : Nat) (f4 : Nat) (z0 : ClassId) (z1 : ClassId) (z2 : ClassId) (z3 : ClassId) (z4 : ClassId) (g0 : Nat → Int32) (g1 : Nat → Int32) (g2 : Nat → Int32) (g3 : Nat → Int32) (g4 : Nat → Int32) (sn : Int32) (ks : Nat) (kw : Nat) (hks : ks ≤ 10) (hkw : kw ≤ 4) (jK : Nat) (k0 : Nat) (k1 : Nat) (cK : ClassId) (cO : ClassId) (l0 : Nat → Int32) (l1 : Nat → Int32) (ru : Nat) (sA : Nat) (cl : Nat) (cS : ClassId) (cc : ClassId) (nS : Nat) (nC : Nat) (gS : Nat → Int32) (gC : Nat → Int32) (hnS : nS ≤ 200) (hnC : nC ≤ 200) (A : Nat → Prop) (p0 : Int32) : Met l yX1_tellsSince w_s_tellsSince1 ({ frames := 3, cells := 0, slots := 0, locals := 180 }) (kR dC dI [.ref jC, .int p0] [(jC, .inr (1, [.ref hF, .ref jK, .ref d2, .ref d3, .ref d4, .ref d5, .ref d6, .ref d7, .ref d8, .ref d9, .ref d10, .ref d11, .ref d12, .ref d13, .ref ru, .long dr, .int pr, .int mo, .int ho])), (d2, .inl (w2, 10, .inl e2)), (d3, .inl (w3, 10, .inl e3)), (d4, .inl (w4, 10, .inl e4)), (d5, .inl (w5, 10, .inl e5)), (d6, .inl (w6, 10, .inl e6)), (d7, .inl (w7, 10, .inl e7)), (d8, .inl (w8, 10, .inl e8)), (d9, .inl (w9, 10, .inl e9)), (d10, .inl (w10, 4, .inl e10)), (d11, .inl (w11, 4, .inl e11)), (d12, .inl (w12, 4, .inl e12)), (d13, .inl (w13, 9, .inr (.inl e13))), (hF, .inr (2, [.ref f0, .ref f1, .ref f2, .ref f3, .ref f4, .int sn, .int (nI (ks)), .int (nI (kw))])), (f0, .inl (z0, 10, .inl g0)), (f1, .inl (z1, 10, .inl g1)), (f2, .inl (z2, 10, .inl g2)), (f3, .inl (z3, 10, .inl g3)), (f4, .inl (z4, 4, .inl g4)), (jK, .inr (5, [.ref k0, .ref k1])), (k0, .inl (cK, 8, .inl l0)), (k1, .inl (cO, 32, .inl l1))] [(w2, .int), (w3, .int), (w4, .int), (w5, .int), (w6, .int), (w7, .int), (w8, .int), (w9, .int), (w10, .int), (w11, .int), (w12, .int), (w13, .long), (z0, .int), (z1, .int), (z2, .int), (z3, .int), (z4, .int), (cK, .int), (cO, .int), (cS, .int), (cc, .int)] (kNF dC dI [(ru, .inr (6, [.ref sA, .ref cl])), (sA, .inl (cS, nS, .inl gS)), (cl, .inl (cc, nC, .inl gC))] A)) (vp_Si (fun r : Int32 => True)) 0 0 (fun _ => False) := by
  refine Met.ofW (cc := cX1_tellsSince) (maxL := 2) (ret := (some .int)) (by decide) rfl ?_
  intro p e s m args below meth c s₁ B hml hv
  obtain ⟨rfl, hP, hK, hX⟩ := hv
  have hx := B.exec
  have hb := B.bytes
  have hr := B.returns
  have hts := atoms_spec (ws := w_s_tellsSince1) B.pre
  have hown : s.vm.findClass RX1 = some m.cls := findClass_of_methodNamed B.named
  have hlocks := B.notSynchronized
  have hS : va_S A s.heap s.heap [] := va_S.rf
  have hP : va_P (dC, dI) vwCl [(jC, .inr (1, [.ref hF, .ref jK, .ref d2, .ref d3, .ref d4, .ref d5, .ref d6, .ref d7, .ref d8, .ref d9, .ref d10, .ref d11, .ref d12, .ref d13, .ref ru, .long dr, .int pr, .int mo, .int ho])), (d2, .inl (w2, 10, .inl e2)), (d3, .inl (w3, 10, .inl e3)), (d4, .inl (w4, 10, .inl e4)), (d5, .inl (w5, 10, .inl e5)), (d6, .inl (w6, 10, .inl e6)), (d7, .inl (w7, 10, .inl e7)), (d8, .inl (w8, 10, .inl e8)), (d9, .inl (w9, 10, .inl e9)), (d10, .inl (w10, 4, .inl e10)), (d11, .inl (w11, 4, .inl e11)), (d12, .inl (w12, 4, .inl e12)), (d13, .inl (w13, 9, .inr (.inl e13))), (hF, .inr (2, [.ref f0, .ref f1, .ref f2, .ref f3, .ref f4, .int sn, .int (nI (ks)), .int (nI (kw))])), (f0, .inl (z0, 10, .inl g0)), (f1, .inl (z1, 10, .inl g1)), (f2, .inl (z2, 10, .inl g2)), (f3, .inl (z3, 10, .inl g3)), (f4, .inl (z4, 4, .inl g4)), (jK, .inr (5, [.ref k0, .ref k1])), (k0, .inl (cK, 8, .inl l0)), (k1, .inl (cO, 32, .inl l1))] s.heap := hP
  have hl := lv_entry ([.ref jC, .int p0]) (n := 2) (Nat.le_of_ble_eq_true rfl)
  rw [lg_entry_eq]
  generalize (lg_sl ([.ref jC, .int p0]) ++ List.replicate (2 - (lg_sl ([.ref jC, .int p0])).length) Slot.unset).toArray = ls at hl ⊢
  have hl : lv_has ls 2 [(0, .ref jC), (1, .int p0)] := hl
  refine kQ (fun Q hQ => ?_)
  refine lv_aload_n hx hb dX1_tellsSince_0 rfl (lv_at hl 0 rfl) ?_
  refine va_get (D := (dC, dI)) (ci := 1) (v := .ref hF) (C := RX1) (T := TX1) (N := 19) hx hb hts (fun _ h => List.mem_cons_of_mem _ (List.mem_append_right _ (List.mem_append_left _ h))) hown hK hP 0 rfl rfl 0 kc_l_0_19 (hts (.fieldLink RX1 67 "NotEnded$Course" "folk" "LNotEnded$Folk;") (List.mem_cons_of_mem _ (List.mem_append_left _ (List.mem_of_getElem? (i := 0) rfl)))) (fun _ h9 => h9) rfl dX1_tellsSince_1 ?_
  refine lv_iload_n hx hb dX1_tellsSince_4 rfl (lv_at hl 1 rfl) ?_
  have hPc := hP.sb (ws2 := [(hF, .inr (2, [.ref f0, .ref f1, .ref f2, .ref f3, .ref f4, .int sn, .int (nI (ks)), .int (nI (kw))])), (f0, .inl (z0, 10, .inl g0)), (f1, .inl (z1, 10, .inl g1)), (f2, .inl (z2, 10, .inl g2)), (f3, .inl (z3, 10, .inl g3)), (f4, .inl (z4, 4, .inl g4))]) [13, 14, 15, 16, 17, 18] rfl
  have hKc := hK.sb (tys2 := [(z0, .int), (z1, .int), (z2, .int), (z3, .int), (z4, .int)]) [12, 13, 14, 15, 16] rfl
  refine vp_callSi (va_runV (As := [.int p0]) (rest := []) ⟨hx, hb, hml, hown, hts⟩ (s_has2 l dC dI hF f0 f1 f2 f3 f4 z0 z1 z2 z3 z4 g0 g1 g2 g3 g4 sn ks kw hks hkw p0) (cwV 1 hts (kG (List.forall_mem_cons.mpr ⟨(List.mem_cons_of_mem _ (List.mem_append_left _ (List.mem_of_getElem? (i := 4) rfl))), (List.forall_mem_cons.mpr ⟨(List.mem_cons_of_mem _ (List.mem_append_left _ (List.mem_of_getElem? (i := 3) rfl))), (List.forall_mem_cons.mpr ⟨(List.mem_cons_of_mem _ (List.mem_append_left _ (List.mem_of_getElem? (i := 2) rfl))), (List.forall_mem_cons.mpr ⟨(List.mem_cons_of_mem _ (List.mem_append_left _ (List.mem_of_getElem? (i := 1) rfl))), (fun _ h => absurd h List.not_mem_nil)⟩)⟩)⟩)⟩) (kGV _ _ _ _) (fun _ h => List.mem_cons_of_mem _ (List.mem_append_right _ (List.mem_append_right _ h))) gw_s_has2) rfl rfl rfl ⟨rfl, hd_X2_has⟩ ⟨(Nat.le_of_ble_eq_true rfl), (Nat.le_of_ble_eq_true rfl)⟩) (kR_V kT_blind kT_give (va_recv hKc hPc (ci := 2) (q0 := 0) rfl rfl) hPc hKc) rfl rfl hl.1 rfl (lv_room (Nat.le_of_ble_eq_true rfl)) dX1_tellsSince_5 ⟨(Nat.le_of_ble_eq_true rfl), (Nat.le_of_ble_eq_true rfl)⟩).run (fun r_1 hw => ?_)
  have hw_2 := hw
  refine lv_if_eq (tgt := 20) hx hb dX1_tellsSince_8 kc_t_8_12 (fun c_3 => ?_) (fun c_3 => ?_)
  · refine lv_sipush (v := (-1000)) hx hb dX1_tellsSince_20 kc_s_m1000 ?_
    rw [hQ]
    exact W.iret (v := (-1000)) hx hb hr (fun t ht hW => ⟨(-1000), rfl, trivial, ht⟩) (fun _ h => nomatch h) dX1_tellsSince_23
  · obtain ⟨j_4, hj_4, ej_4⟩ := hw_2 c_3
    subst ej_4
    refine lv_aload_n hx hb dX1_tellsSince_11 rfl (lv_at hl 0 rfl) ?_
    refine va_get (D := (dC, dI)) (ci := 1) (v := .ref d5) (C := RX1) (T := TX1) (N := 19) hx hb hts (fun _ h => List.mem_cons_of_mem _ (List.mem_append_right _ (List.mem_append_left _ h))) hown hK hP 0 rfl rfl 5 kc_l_5_19 (hts (.fieldLink RX1 21 "NotEnded$Course" "tellsSince" "[I") (List.mem_cons_of_mem _ (List.mem_append_left _ (List.mem_of_getElem? (i := 5) rfl)))) (fun _ h9 => h9) rfl dX1_tellsSince_12 ?_
    refine lv_iload_n hx hb dX1_tellsSince_15 rfl (lv_at hl 1 rfl) ?_
    have bd_5 : j_4 < 10 := by omega
    refine va_iald hx hb hK hP 4 3 rfl rfl (vp_in_nI (n := j_4) (N := 10) bd_5 kc_31_10) dX1_tellsSince_16 ?_
    refine lv_topi (fun x_6 ex_6 => ?_)
    refine lv_goto (tgt := 23) hx hb dX1_tellsSince_17 kc_t_17_6 ?_
    rw [hQ]
    exact W.iret (v := x_6) hx hb hr (fun t ht hW => ⟨x_6, rfl, trivial, ht⟩) (fun _ h => nomatch h) dX1_tellsSince_23

theorem dX1_howManyAreHome_0 : decode cX1_howManyAreHome 0 = .ok (.iconst 0, 1) := kDs0 kf_3 (by decide +kernel)
theorem dX1_howManyAreHome_1 : decode cX1_howManyAreHome 1 = .ok (.istore_n 1, 1) := kDs0 kf_60 (by decide +kernel)
theorem dX1_howManyAreHome_2 : decode cX1_howManyAreHome 2 = .ok (.iconst 0, 1) := kDs0 kf_3 (by decide +kernel)
theorem dX1_howManyAreHome_3 : decode cX1_howManyAreHome 3 = .ok (.istore_n 2, 1) := kDs0 kf_61 (by decide +kernel)
theorem dX1_howManyAreHome_4 : decode cX1_howManyAreHome 4 = .ok (.iload_n 2, 1) := kDs0 kf_28 (by decide +kernel)
theorem dX1_howManyAreHome_5 : decode cX1_howManyAreHome 5 = .ok (.aload_n 0, 1) := kDs0 kf_42 (by decide +kernel)
theorem dX1_howManyAreHome_6 : decode cX1_howManyAreHome 6 = .ok (.getfield 67, 3) := kDs2 kf_180 (by decide +kernel)
theorem dX1_howManyAreHome_9 : decode cX1_howManyAreHome 9 = .ok (.invokevirtual 84, 3) := kDs2 kf_182 (by decide +kernel)
theorem dX1_howManyAreHome_12 : decode cX1_howManyAreHome 12 = .ok (.if_icmp .ge 33, 3) := kDs4 kf_162 (by decide +kernel)
theorem dX1_howManyAreHome_45 : decode cX1_howManyAreHome 45 = .ok (.iload_n 1, 1) := kDs0 kf_27 (by decide +kernel)
theorem dX1_howManyAreHome_46 : decode cX1_howManyAreHome 46 = .ok (.ireturn, 1) := kDs0 kf_172 (by decide +kernel)
theorem dX1_howManyAreHome_15 : decode cX1_howManyAreHome 15 = .ok (.aload_n 0, 1) := kDs0 kf_42 (by decide +kernel)
theorem dX1_howManyAreHome_16 : decode cX1_howManyAreHome 16 = .ok (.getfield 57, 3) := kDs2 kf_180 (by decide +kernel)
theorem dX1_howManyAreHome_19 : decode cX1_howManyAreHome 19 = .ok (.iload_n 2, 1) := kDs0 kf_28 (by decide +kernel)
theorem dX1_howManyAreHome_20 : decode cX1_howManyAreHome 20 = .ok (.invokestatic 116, 3) := kDs2 kf_184 (by decide +kernel)
theorem dX1_howManyAreHome_23 : decode cX1_howManyAreHome 23 = .ok (.ifCond .eq 16, 3) := kDs4 kf_153 (by decide +kernel)
theorem dX1_howManyAreHome_39 : decode cX1_howManyAreHome 39 = .ok (.iinc 2 1, 3) := kDs5 kf_132 (by decide +kernel)
theorem dX1_howManyAreHome_42 : decode cX1_howManyAreHome 42 = .ok (.goto (-38), 3) := kDs4 kf_167 (by decide +kernel)
theorem dX1_howManyAreHome_26 : decode cX1_howManyAreHome 26 = .ok (.aload_n 0, 1) := kDs0 kf_42 (by decide +kernel)
theorem dX1_howManyAreHome_27 : decode cX1_howManyAreHome 27 = .ok (.getfield 18, 3) := kDs2 kf_180 (by decide +kernel)
theorem dX1_howManyAreHome_30 : decode cX1_howManyAreHome 30 = .ok (.iload_n 2, 1) := kDs0 kf_28 (by decide +kernel)
theorem dX1_howManyAreHome_31 : decode cX1_howManyAreHome 31 = .ok (.iaload, 1) := kDs0 kf_46 (by decide +kernel)
theorem dX1_howManyAreHome_32 : decode cX1_howManyAreHome 32 = .ok (.iconst (-1), 1) := kDs0 kf_2 (by decide +kernel)
theorem dX1_howManyAreHome_33 : decode cX1_howManyAreHome 33 = .ok (.if_icmp .ne 6, 3) := kDs4 kf_160 (by decide +kernel)
theorem dX1_howManyAreHome_36 : decode cX1_howManyAreHome 36 = .ok (.iinc 1 1, 3) := kDs5 kf_132 (by decide +kernel)
def w_s_howManyAreHome1 : List Cond := .code yX1_howManyAreHome cX1_howManyAreHome 3 (some .int) :: ([.fieldLink RX1 67 "NotEnded$Course" "folk" "LNotEnded$Folk;", .initialized RX2, .selects RX2 yX2_size yX2_size, .instanceMethod yX2_size, .methodLink RX1 84 yX2_size, .fieldLink RX1 57 "NotEnded$Course" "present" "I", .initialized RX9, .static yX9_isBit, .fieldLink RX1 18 "NotEnded$Course" "places" "[I"] ++ (wsX10 ++ (w_s_size2 ++ (w_s_isBit9))))
theorem gw_s_howManyAreHome1 : (w_s_howManyAreHome1).all goodWord = true := kGc rfl (kGa (by decide +kernel) (kGa gw_wsX10 (kGa gw_s_size2 gw_s_isBit9)))
theorem hd_X1_howManyAreHome : yX1_howManyAreHome.cls ≠ "java/lang/invoke/MethodHandle" ∧ yX1_howManyAreHome.cls ≠ "java/lang/invoke/VarHandle" ∧ (parseMethodDescriptor yX1_howManyAreHome.desc).map (fun d => d.parameters.length) = some 0 := by decide +kernel
set_option maxHeartbeats 4000000 in
set_option maxRecDepth 100000 in
theorem s_howManyAreHome1 (l : Launch) (dC : Nat → ClassId) (dI : Nat → Nat → Nat) (jC : Nat) (d2 : Nat) (d3 : Nat) (d4 : Nat) (d5 : Nat) (d6 : Nat) (d7 : Nat) (d8 : Nat) (d9 : Nat) (d10 : Nat) (d11 : Nat) (d12 : Nat) (d13 : Nat) (w2 : ClassId) (w3 : ClassId) (w4 : ClassId) (w5 : ClassId) (w6 : ClassId) (w7 : ClassId) (w8 : ClassId) (w9 : ClassId) (w10 : ClassId) (w11 : ClassId) (w12 : ClassId) (w13 : ClassId) (e2 : Nat → Int32) (e3 : Nat → Int32) (e4 : Nat → Int32) (e5 : Nat → Int32) (e6 : Nat → Int32) (e7 : Nat → Int32) (e8 : Nat → Int32) (e9 : Nat → Int32) (e10 : Nat → Int32) (e11 : Nat → Int32) (e12 : Nat → Int32) (e13 : Nat → Int64) (dr : Int64) (pr : Int32) (mo : Int32) (ho : Int32) (hF : Nat) (f0 : Nat) (f1 : Nat) (f2 : Nat) (f3 : Nat) (f4 : Nat) (z0 : ClassId) (z1 : ClassId) (z2 : ClassId) (z3 : ClassId) (z4 : ClassId) (g0 : Nat → Int32) (g1 : Nat → Int32) (g2 : Nat → Int32) (g3 : Nat → Int32) (g4 : Nat → Int32) (sn : Int32) (ks : Nat) (kw : Nat) (hks : ks ≤ 10) (hkw : kw ≤ 4) (jK : Nat) (k0 : Nat) (k1 : Nat) (cK : ClassId) (cO : ClassId) (l0 : Nat → Int32) (l1 : Nat → Int32) (ru : Nat) (sA : Nat) (cl : Nat) (cS : ClassId) (cc : ClassId) (nS : Nat) (nC : Nat) (gS : Nat → Int32) (gC : Nat → Int32) (hnS : nS ≤ 200) (hnC : nC ≤ 200) (A : Nat → Prop) : Met l yX1_howManyAreHome w_s_howManyAreHome1 ({ frames := 3, cells := 0, slots := 0, locals := 180 }) (kR dC dI [.ref jC] [(jC, .inr (1, [.ref hF, .ref jK, .ref d2, .ref d3, .ref d4, .ref d5, .ref d6, .ref d7, .ref d8, .ref d9, .ref d10, .ref d11, .ref d12, .ref d13, .ref ru, .long dr, .int pr, .int mo, .int ho])), (d2, .inl (w2, 10, .inl e2)), (d3, .inl (w3, 10, .inl e3)), (d4, .inl (w4, 10, .inl e4)), (d5, .inl (w5, 10, .inl e5)), (d6, .inl (w6, 10, .inl e6)), (d7, .inl (w7, 10, .inl e7)), (d8, .inl (w8, 10, .inl e8)), (d9, .inl (w9, 10, .inl e9)), (d10, .inl (w10, 4, .inl e10)), (d11, .inl (w11, 4, .inl e11)), (d12, .inl (w12, 4, .inl e12)), (d13, .inl (w13, 9, .inr (.inl e13))), (hF, .inr (2, [.ref f0, .ref f1, .ref f2, .ref f3, .ref f4, .int sn, .int (nI (ks)), .int (nI (kw))])), (f0, .inl (z0, 10, .inl g0)), (f1, .inl (z1, 10, .inl g1)), (f2, .inl (z2, 10, .inl g2)), (f3, .inl (z3, 10, .inl g3)), (f4, .inl (z4, 4, .inl g4)), (jK, .inr (5, [.ref k0, .ref k1])), (k0, .inl (cK, 8, .inl l0)), (k1, .inl (cO, 32, .inl l1))] [(w2, .int), (w3, .int), (w4, .int), (w5, .int), (w6, .int), (w7, .int), (w8, .int), (w9, .int), (w10, .int), (w11, .int), (w12, .int), (w13, .long), (z0, .int), (z1, .int), (z2, .int), (z3, .int), (z4, .int), (cK, .int), (cO, .int), (cS, .int), (cc, .int)] (kNF dC dI [(ru, .inr (6, [.ref sA, .ref cl])), (sA, .inl (cS, nS, .inl gS)), (cl, .inl (cc, nC, .inl gC))] A)) (vp_Si (fun r : Int32 => True)) 0 0 (fun _ => False) := by
  refine Met.ofW (cc := cX1_howManyAreHome) (maxL := 3) (ret := (some .int)) (by decide) rfl ?_
  intro p e s m args below meth c s₁ B hml hv
  obtain ⟨rfl, hP, hK, hX⟩ := hv
  have hx := B.exec
  have hb := B.bytes
  have hr := B.returns
  have hts := atoms_spec (ws := w_s_howManyAreHome1) B.pre
  have hown : s.vm.findClass RX1 = some m.cls := findClass_of_methodNamed B.named
  have hlocks := B.notSynchronized
  have hS : va_S A s.heap s.heap [] := va_S.rf
  have hP : va_P (dC, dI) vwCl [(jC, .inr (1, [.ref hF, .ref jK, .ref d2, .ref d3, .ref d4, .ref d5, .ref d6, .ref d7, .ref d8, .ref d9, .ref d10, .ref d11, .ref d12, .ref d13, .ref ru, .long dr, .int pr, .int mo, .int ho])), (d2, .inl (w2, 10, .inl e2)), (d3, .inl (w3, 10, .inl e3)), (d4, .inl (w4, 10, .inl e4)), (d5, .inl (w5, 10, .inl e5)), (d6, .inl (w6, 10, .inl e6)), (d7, .inl (w7, 10, .inl e7)), (d8, .inl (w8, 10, .inl e8)), (d9, .inl (w9, 10, .inl e9)), (d10, .inl (w10, 4, .inl e10)), (d11, .inl (w11, 4, .inl e11)), (d12, .inl (w12, 4, .inl e12)), (d13, .inl (w13, 9, .inr (.inl e13))), (hF, .inr (2, [.ref f0, .ref f1, .ref f2, .ref f3, .ref f4, .int sn, .int (nI (ks)), .int (nI (kw))])), (f0, .inl (z0, 10, .inl g0)), (f1, .inl (z1, 10, .inl g1)), (f2, .inl (z2, 10, .inl g2)), (f3, .inl (z3, 10, .inl g3)), (f4, .inl (z4, 4, .inl g4)), (jK, .inr (5, [.ref k0, .ref k1])), (k0, .inl (cK, 8, .inl l0)), (k1, .inl (cO, 32, .inl l1))] s.heap := hP
  have hl := lv_entry ([.ref jC]) (n := 3) (Nat.le_of_ble_eq_true rfl)
  rw [lg_entry_eq]
  generalize (lg_sl ([.ref jC]) ++ List.replicate (3 - (lg_sl ([.ref jC])).length) Slot.unset).toArray = ls at hl ⊢
  have hl : lv_has ls 3 [(0, .ref jC)] := hl
  refine kQ (fun Q hQ => ?_)
  refine lv_iconst (v := 0) hx hb dX1_howManyAreHome_0 kc_i_0 ?_
  refine lv_istore_n hx hb dX1_howManyAreHome_1 rfl hl kc_l_1_3 (kTo [(1, .int 0), (0, .ref jC)]) (fun ls hl => ?_)
  refine lv_iconst (v := 0) hx hb dX1_howManyAreHome_2 kc_i_0 ?_
  refine lv_istore_n hx hb dX1_howManyAreHome_3 rfl hl kc_l_2_3 (kTo [(2, .int 0), (1, .int 0), (0, .ref jC)]) (fun ls hl => ?_)
  have lp_k_1 : ∀ (n9 : Nat) (i : Nat) (x1 : Int32) (ivk_1_0 : i ≤ ks) (ls : Array Slot) (_ : lv_has ls 3 [(2, .int (nI (i))), (1, .int x1), (0, .ref jC)]) (_ : ks - i < n9), W p l e (headSpec w_s_howManyAreHome1 ({ frames := 3, cells := 0, slots := 0, locals := 180 })).room s m (#[.ref jC] : Array Value) below meth c s.heap [] 0 0 Q (F0 m 4 ls []) := by
    intro n9
    induction n9 with
    | zero => intro i x1 ivk_1_0 ls hl hm9; exact absurd hm9 (Nat.not_lt_zero _)
    | succ n9 ih_k_1 =>
      intro i x1 ivk_1_0 ls hl hm9
      refine lv_iload_n hx hb dX1_howManyAreHome_4 rfl (lv_at hl 0 rfl) ?_
      refine lv_aload_n hx hb dX1_howManyAreHome_5 rfl (lv_at hl 2 rfl) ?_
      refine va_get (D := (dC, dI)) (ci := 1) (v := .ref hF) (C := RX1) (T := TX1) (N := 19) hx hb hts (fun _ h => List.mem_cons_of_mem _ (List.mem_append_right _ (List.mem_append_left _ h))) hown hK hP 0 rfl rfl 0 kc_l_0_19 (hts (.fieldLink RX1 67 "NotEnded$Course" "folk" "LNotEnded$Folk;") (List.mem_cons_of_mem _ (List.mem_append_left _ (List.mem_of_getElem? (i := 0) rfl)))) (fun _ h9 => h9) rfl dX1_howManyAreHome_6 ?_
      have hPc := hP.sb (ws2 := [(hF, .inr (2, [.ref f0, .ref f1, .ref f2, .ref f3, .ref f4, .int sn, .int (nI (ks)), .int (nI (kw))])), (f0, .inl (z0, 10, .inl g0)), (f1, .inl (z1, 10, .inl g1)), (f2, .inl (z2, 10, .inl g2)), (f3, .inl (z3, 10, .inl g3)), (f4, .inl (z4, 4, .inl g4))]) [13, 14, 15, 16, 17, 18] rfl
      have hKc := hK.sb (tys2 := [(z0, .int), (z1, .int), (z2, .int), (z3, .int), (z4, .int)]) [12, 13, 14, 15, 16] rfl
      refine vp_callSi (va_runV (As := []) (rest := [.int (nI (i))]) ⟨hx, hb, hml, hown, hts⟩ (s_size2 l dC dI hF f0 f1 f2 f3 f4 z0 z1 z2 z3 z4 g0 g1 g2 g3 g4 sn ks kw hks hkw) (cwV 0 hts (kG (List.forall_mem_cons.mpr ⟨(List.mem_cons_of_mem _ (List.mem_append_left _ (List.mem_of_getElem? (i := 4) rfl))), (List.forall_mem_cons.mpr ⟨(List.mem_cons_of_mem _ (List.mem_append_left _ (List.mem_of_getElem? (i := 3) rfl))), (List.forall_mem_cons.mpr ⟨(List.mem_cons_of_mem _ (List.mem_append_left _ (List.mem_of_getElem? (i := 2) rfl))), (List.forall_mem_cons.mpr ⟨(List.mem_cons_of_mem _ (List.mem_append_left _ (List.mem_of_getElem? (i := 1) rfl))), (fun _ h => absurd h List.not_mem_nil)⟩)⟩)⟩)⟩) (kGV _ _ _ _) (fun _ h => List.mem_cons_of_mem _ (List.mem_append_right _ (List.mem_append_right _ (List.mem_append_left _ h)))) gw_s_size2) rfl rfl rfl ⟨rfl, hd_X2_size⟩ ⟨(Nat.le_of_ble_eq_true rfl), (Nat.le_of_ble_eq_true rfl)⟩) (kR_V kT_blind kT_give (va_recv hKc hPc (ci := 2) (q0 := 0) rfl rfl) hPc hKc) rfl rfl hl.1 rfl (lv_room (Nat.le_of_ble_eq_true rfl)) dX1_howManyAreHome_9 ⟨(Nat.le_of_ble_eq_true rfl), (Nat.le_of_ble_eq_true rfl)⟩).run (fun r_2 hw => ?_)
      obtain rfl : r_2 = nI (ks) := hw
      refine lv_icmp_ge (tgt := 45) hx hb dX1_howManyAreHome_12 kc_t_12_33 (fun c_3 => ?_) (fun c_3 => ?_)
      · have bd_5 : ks < 2147483648 := by omega
        have bd_6 : i < 2147483648 := by omega
        have hn_4 := kle (a := ks) (b := i) bd_5 bd_6 c_3
        refine lv_iload_n hx hb dX1_howManyAreHome_45 rfl (lv_at hl 1 rfl) ?_
        rw [hQ]
        exact W.iret (v := x1) hx hb hr (fun t ht hW => ⟨x1, rfl, trivial, ht⟩) (fun _ h => nomatch h) dX1_howManyAreHome_46
      · have bd_8 : ks < 2147483648 := by omega
        have bd_9 : i < 2147483648 := by omega
        have hn_7 := knle (a := ks) (b := i) bd_8 bd_9 c_3
        refine lv_aload_n hx hb dX1_howManyAreHome_15 rfl (lv_at hl 2 rfl) ?_
        refine va_get (D := (dC, dI)) (ci := 1) (v := .int pr) (C := RX1) (T := TX1) (N := 19) hx hb hts (fun _ h => List.mem_cons_of_mem _ (List.mem_append_right _ (List.mem_append_left _ h))) hown hK hP 0 rfl rfl 16 kc_l_16_19 (hts (.fieldLink RX1 57 "NotEnded$Course" "present" "I") (List.mem_cons_of_mem _ (List.mem_append_left _ (List.mem_of_getElem? (i := 5) rfl)))) (fun _ h9 => h9) rfl dX1_howManyAreHome_16 ?_
        refine lv_iload_n hx hb dX1_howManyAreHome_19 rfl (lv_at hl 0 rfl) ?_
        have hPc := hP.sb (ws2 := []) [] rfl
        have hKc := hK.sb (tys2 := []) [] rfl
        refine vp_callSi (va_runSN (As := [.int pr, .int (nI (i))]) (rest := []) ⟨hx, hb, hml, hown, hts⟩ (s_isBit9 l dC dI pr (nI (i))) (⟨va_cnB 2 hts (goodIn_sub (fun _ h => List.mem_cons_of_mem _ (List.mem_append_right _ (List.mem_append_right _ (List.mem_append_right _ h)))) gw_s_isBit9) rfl rfl rfl (hX.2 _ (List.mem_of_getElem? (i := 12) rfl)) (hts (.initialized RX9) (List.mem_cons_of_mem _ (List.mem_append_left _ (List.mem_of_getElem? (i := 6) rfl)))) hd_X9_isBit ⟨(Nat.le_of_ble_eq_true rfl), (Nat.le_of_ble_eq_true rfl)⟩, (hts (.static yX9_isBit) (List.mem_cons_of_mem _ (List.mem_append_left _ (List.mem_of_getElem? (i := 7) rfl)))), trivial⟩) (kR_S kT_blind kT_give hPc hKc) rfl rfl hl.1 rfl (lv_room (Nat.le_of_ble_eq_true rfl)) dX1_howManyAreHome_20 ⟨(Nat.le_of_ble_eq_true rfl), (Nat.le_of_ble_eq_true rfl)⟩).run (fun r_10 hw => ?_)
        have hw_11 := hw
        refine lv_if_eq (tgt := 39) hx hb dX1_howManyAreHome_23 kc_t_23_16 (fun c_12 => ?_) (fun c_12 => ?_)
        · refine lv_iinc (v := nI (i + 1)) hx hb dX1_howManyAreHome_39 hl (k := 0) rfl (kInc _ 1) kc_l_2_3 (kTo [(2, .int (nI (i + 1))), (1, .int x1), (0, .ref jC)]) (fun ls hl => ?_)
          refine lv_goto (tgt := 4) hx hb dX1_howManyAreHome_42 kc_t_42_m38 ?_
          exact ih_k_1 (i + 1) x1 (by omega) ls (lv_sub hl [0, 1, 2] rfl) (by omega)
        · refine lv_aload_n hx hb dX1_howManyAreHome_26 rfl (lv_at hl 2 rfl) ?_
          refine va_get (D := (dC, dI)) (ci := 1) (v := .ref d4) (C := RX1) (T := TX1) (N := 19) hx hb hts (fun _ h => List.mem_cons_of_mem _ (List.mem_append_right _ (List.mem_append_left _ h))) hown hK hP 0 rfl rfl 4 kc_l_4_19 (hts (.fieldLink RX1 18 "NotEnded$Course" "places" "[I") (List.mem_cons_of_mem _ (List.mem_append_left _ (List.mem_of_getElem? (i := 8) rfl)))) (fun _ h9 => h9) rfl dX1_howManyAreHome_27 ?_
          refine lv_iload_n hx hb dX1_howManyAreHome_30 rfl (lv_at hl 0 rfl) ?_
          have bd_13 : i < 10 := by omega
          refine va_iald hx hb hK hP 3 2 rfl rfl (vp_in_nI (n := i) (N := 10) bd_13 kc_31_10) dX1_howManyAreHome_31 ?_
          refine lv_topi (fun x_14 ex_14 => ?_)
          refine lv_iconst (v := (-1)) hx hb dX1_howManyAreHome_32 kc_i_m1 ?_
          refine lv_icmp_ne (tgt := 39) hx hb dX1_howManyAreHome_33 kc_t_33_6 (fun c_15 => ?_) (fun c_15 => ?_)
          · refine lv_iinc (v := nI (i + 1)) hx hb dX1_howManyAreHome_39 hl (k := 0) rfl (kInc _ 1) kc_l_2_3 (kTo [(2, .int (nI (i + 1))), (1, .int x1), (0, .ref jC)]) (fun ls hl => ?_)
            refine lv_goto (tgt := 4) hx hb dX1_howManyAreHome_42 kc_t_42_m38 ?_
            exact ih_k_1 (i + 1) x1 (by omega) ls (lv_sub hl [0, 1, 2] rfl) (by omega)
          · obtain ⟨x_16, ex_16⟩ : ∃ y : Int32, y = x1 + 1 := ⟨_, rfl⟩
            refine lv_iinc (v := x_16) hx hb dX1_howManyAreHome_36 hl (k := 1) rfl (by rw [ex_16]; rfl) kc_l_1_3 (kTo [(1, .int x_16), (2, .int (nI (i))), (0, .ref jC)]) (fun ls hl => ?_)
            refine lv_iinc (v := nI (i + 1)) hx hb dX1_howManyAreHome_39 hl (k := 1) rfl (kInc _ 1) kc_l_2_3 (kTo [(2, .int (nI (i + 1))), (1, .int x_16), (0, .ref jC)]) (fun ls hl => ?_)
            refine lv_goto (tgt := 4) hx hb dX1_howManyAreHome_42 kc_t_42_m38 ?_
            exact ih_k_1 (i + 1) x_16 (by omega) ls (lv_sub hl [0, 1, 2] rfl) (by omega)
  exact lp_k_1 (ks - 0 + 1) 0 0 (by omega) ls (lv_sub hl [0, 1, 2] rfl) (by omega)

theorem dX1_whoGaveUp_0 : decode cX1_whoGaveUp 0 = .ok (.iconst 0, 1) := kDs0 kf_3 (by decide +kernel)
theorem dX1_whoGaveUp_1 : decode cX1_whoGaveUp 1 = .ok (.istore_n 1, 1) := kDs0 kf_60 (by decide +kernel)
theorem dX1_whoGaveUp_2 : decode cX1_whoGaveUp 2 = .ok (.iconst 0, 1) := kDs0 kf_3 (by decide +kernel)
theorem dX1_whoGaveUp_3 : decode cX1_whoGaveUp 3 = .ok (.istore_n 2, 1) := kDs0 kf_61 (by decide +kernel)
theorem dX1_whoGaveUp_4 : decode cX1_whoGaveUp 4 = .ok (.iload_n 2, 1) := kDs0 kf_28 (by decide +kernel)
theorem dX1_whoGaveUp_5 : decode cX1_whoGaveUp 5 = .ok (.aload_n 0, 1) := kDs0 kf_42 (by decide +kernel)
theorem dX1_whoGaveUp_6 : decode cX1_whoGaveUp 6 = .ok (.getfield 67, 3) := kDs2 kf_180 (by decide +kernel)
theorem dX1_whoGaveUp_9 : decode cX1_whoGaveUp 9 = .ok (.invokevirtual 84, 3) := kDs2 kf_182 (by decide +kernel)
theorem dX1_whoGaveUp_12 : decode cX1_whoGaveUp 12 = .ok (.if_icmp .ge 37, 3) := kDs4 kf_162 (by decide +kernel)
theorem dX1_whoGaveUp_49 : decode cX1_whoGaveUp 49 = .ok (.iload_n 1, 1) := kDs0 kf_27 (by decide +kernel)
theorem dX1_whoGaveUp_50 : decode cX1_whoGaveUp 50 = .ok (.ireturn, 1) := kDs0 kf_172 (by decide +kernel)
theorem dX1_whoGaveUp_15 : decode cX1_whoGaveUp 15 = .ok (.aload_n 0, 1) := kDs0 kf_42 (by decide +kernel)
theorem dX1_whoGaveUp_16 : decode cX1_whoGaveUp 16 = .ok (.getfield 57, 3) := kDs2 kf_180 (by decide +kernel)
theorem dX1_whoGaveUp_19 : decode cX1_whoGaveUp 19 = .ok (.iload_n 2, 1) := kDs0 kf_28 (by decide +kernel)
theorem dX1_whoGaveUp_20 : decode cX1_whoGaveUp 20 = .ok (.invokestatic 116, 3) := kDs2 kf_184 (by decide +kernel)
theorem dX1_whoGaveUp_23 : decode cX1_whoGaveUp 23 = .ok (.ifCond .eq 20, 3) := kDs4 kf_153 (by decide +kernel)
theorem dX1_whoGaveUp_43 : decode cX1_whoGaveUp 43 = .ok (.iinc 2 1, 3) := kDs5 kf_132 (by decide +kernel)
theorem dX1_whoGaveUp_46 : decode cX1_whoGaveUp 46 = .ok (.goto (-42), 3) := kDs4 kf_167 (by decide +kernel)
theorem dX1_whoGaveUp_26 : decode cX1_whoGaveUp 26 = .ok (.aload_n 0, 1) := kDs0 kf_42 (by decide +kernel)
theorem dX1_whoGaveUp_27 : decode cX1_whoGaveUp 27 = .ok (.getfield 9, 3) := kDs2 kf_180 (by decide +kernel)
theorem dX1_whoGaveUp_30 : decode cX1_whoGaveUp 30 = .ok (.iload_n 2, 1) := kDs0 kf_28 (by decide +kernel)
theorem dX1_whoGaveUp_31 : decode cX1_whoGaveUp 31 = .ok (.iaload, 1) := kDs0 kf_46 (by decide +kernel)
theorem dX1_whoGaveUp_32 : decode cX1_whoGaveUp 32 = .ok (.bipush 20, 2) := kDs3 kf_16 (by decide +kernel)
theorem dX1_whoGaveUp_34 : decode cX1_whoGaveUp 34 = .ok (.if_icmp .ge 9, 3) := kDs4 kf_162 (by decide +kernel)
theorem dX1_whoGaveUp_37 : decode cX1_whoGaveUp 37 = .ok (.iload_n 1, 1) := kDs0 kf_27 (by decide +kernel)
theorem dX1_whoGaveUp_38 : decode cX1_whoGaveUp 38 = .ok (.iconst 1, 1) := kDs0 kf_4 (by decide +kernel)
theorem dX1_whoGaveUp_39 : decode cX1_whoGaveUp 39 = .ok (.iload_n 2, 1) := kDs0 kf_28 (by decide +kernel)
theorem dX1_whoGaveUp_40 : decode cX1_whoGaveUp 40 = .ok (.ishl, 1) := kDs0 kf_120 (by decide +kernel)
theorem dX1_whoGaveUp_41 : decode cX1_whoGaveUp 41 = .ok (.ior, 1) := kDs0 kf_128 (by decide +kernel)
theorem dX1_whoGaveUp_42 : decode cX1_whoGaveUp 42 = .ok (.istore_n 1, 1) := kDs0 kf_60 (by decide +kernel)
def w_s_whoGaveUp1 : List Cond := .code yX1_whoGaveUp cX1_whoGaveUp 3 (some .int) :: ([.fieldLink RX1 67 "NotEnded$Course" "folk" "LNotEnded$Folk;", .initialized RX2, .selects RX2 yX2_size yX2_size, .instanceMethod yX2_size, .methodLink RX1 84 yX2_size, .fieldLink RX1 57 "NotEnded$Course" "present" "I", .initialized RX9, .static yX9_isBit, .fieldLink RX1 9 "NotEnded$Course" "held" "[I"] ++ (wsX10 ++ (w_s_size2 ++ (w_s_isBit9))))
theorem gw_s_whoGaveUp1 : (w_s_whoGaveUp1).all goodWord = true := kGc rfl (kGa (by decide +kernel) (kGa gw_wsX10 (kGa gw_s_size2 gw_s_isBit9)))
theorem hd_X1_whoGaveUp : yX1_whoGaveUp.cls ≠ "java/lang/invoke/MethodHandle" ∧ yX1_whoGaveUp.cls ≠ "java/lang/invoke/VarHandle" ∧ (parseMethodDescriptor yX1_whoGaveUp.desc).map (fun d => d.parameters.length) = some 0 := by decide +kernel
set_option maxHeartbeats 4000000 in
set_option maxRecDepth 100000 in
theorem s_whoGaveUp1 (l : Launch) (dC : Nat → ClassId) (dI : Nat → Nat → Nat) (jC : Nat) (d2 : Nat) (d3 : Nat) (d4 : Nat) (d5 : Nat) (d6 : Nat) (d7 : Nat) (d8 : Nat) (d9 : Nat) (d10 : Nat) (d11 : Nat) (d12 : Nat) (d13 : Nat) (w2 : ClassId) (w3 : ClassId) (w4 : ClassId) (w5 : ClassId) (w6 : ClassId) (w7 : ClassId) (w8 : ClassId) (w9 : ClassId) (w10 : ClassId) (w11 : ClassId) (w12 : ClassId) (w13 : ClassId) (e2 : Nat → Int32) (e3 : Nat → Int32) (e4 : Nat → Int32) (e5 : Nat → Int32) (e6 : Nat → Int32) (e7 : Nat → Int32) (e8 : Nat → Int32) (e9 : Nat → Int32) (e10 : Nat → Int32) (e11 : Nat → Int32) (e12 : Nat → Int32) (e13 : Nat → Int64) (dr : Int64) (pr : Int32) (mo : Int32) (ho : Int32) (hF : Nat) (f0 : Nat) (f1 : Nat) (f2 : Nat) (f3 : Nat) (f4 : Nat) (z0 : ClassId) (z1 : ClassId) (z2 : ClassId) (z3 : ClassId) (z4 : ClassId) (g0 : Nat → Int32) (g1 : Nat → Int32) (g2 : Nat → Int32) (g3 : Nat → Int32) (g4 : Nat → Int32) (sn : Int32) (ks : Nat) (kw : Nat) (hks : ks ≤ 10) (hkw : kw ≤ 4) (jK : Nat) (k0 : Nat) (k1 : Nat) (cK : ClassId) (cO : ClassId) (l0 : Nat → Int32) (l1 : Nat → Int32) (ru : Nat) (sA : Nat) (cl : Nat) (cS : ClassId) (cc : ClassId) (nS : Nat) (nC : Nat) (gS : Nat → Int32) (gC : Nat → Int32) (hnS : nS ≤ 200) (hnC : nC ≤ 200) (A : Nat → Prop) : Met l yX1_whoGaveUp w_s_whoGaveUp1 ({ frames := 3, cells := 0, slots := 0, locals := 180 }) (kR dC dI [.ref jC] [(jC, .inr (1, [.ref hF, .ref jK, .ref d2, .ref d3, .ref d4, .ref d5, .ref d6, .ref d7, .ref d8, .ref d9, .ref d10, .ref d11, .ref d12, .ref d13, .ref ru, .long dr, .int pr, .int mo, .int ho])), (d2, .inl (w2, 10, .inl e2)), (d3, .inl (w3, 10, .inl e3)), (d4, .inl (w4, 10, .inl e4)), (d5, .inl (w5, 10, .inl e5)), (d6, .inl (w6, 10, .inl e6)), (d7, .inl (w7, 10, .inl e7)), (d8, .inl (w8, 10, .inl e8)), (d9, .inl (w9, 10, .inl e9)), (d10, .inl (w10, 4, .inl e10)), (d11, .inl (w11, 4, .inl e11)), (d12, .inl (w12, 4, .inl e12)), (d13, .inl (w13, 9, .inr (.inl e13))), (hF, .inr (2, [.ref f0, .ref f1, .ref f2, .ref f3, .ref f4, .int sn, .int (nI (ks)), .int (nI (kw))])), (f0, .inl (z0, 10, .inl g0)), (f1, .inl (z1, 10, .inl g1)), (f2, .inl (z2, 10, .inl g2)), (f3, .inl (z3, 10, .inl g3)), (f4, .inl (z4, 4, .inl g4)), (jK, .inr (5, [.ref k0, .ref k1])), (k0, .inl (cK, 8, .inl l0)), (k1, .inl (cO, 32, .inl l1))] [(w2, .int), (w3, .int), (w4, .int), (w5, .int), (w6, .int), (w7, .int), (w8, .int), (w9, .int), (w10, .int), (w11, .int), (w12, .int), (w13, .long), (z0, .int), (z1, .int), (z2, .int), (z3, .int), (z4, .int), (cK, .int), (cO, .int), (cS, .int), (cc, .int)] (kNF dC dI [(ru, .inr (6, [.ref sA, .ref cl])), (sA, .inl (cS, nS, .inl gS)), (cl, .inl (cc, nC, .inl gC))] A)) (vp_Si (fun r : Int32 => True)) 0 0 (fun _ => False) := by
  refine Met.ofW (cc := cX1_whoGaveUp) (maxL := 3) (ret := (some .int)) (by decide) rfl ?_
  intro p e s m args below meth c s₁ B hml hv
  obtain ⟨rfl, hP, hK, hX⟩ := hv
  have hx := B.exec
  have hb := B.bytes
  have hr := B.returns
  have hts := atoms_spec (ws := w_s_whoGaveUp1) B.pre
  have hown : s.vm.findClass RX1 = some m.cls := findClass_of_methodNamed B.named
  have hlocks := B.notSynchronized
  have hS : va_S A s.heap s.heap [] := va_S.rf
  have hP : va_P (dC, dI) vwCl [(jC, .inr (1, [.ref hF, .ref jK, .ref d2, .ref d3, .ref d4, .ref d5, .ref d6, .ref d7, .ref d8, .ref d9, .ref d10, .ref d11, .ref d12, .ref d13, .ref ru, .long dr, .int pr, .int mo, .int ho])), (d2, .inl (w2, 10, .inl e2)), (d3, .inl (w3, 10, .inl e3)), (d4, .inl (w4, 10, .inl e4)), (d5, .inl (w5, 10, .inl e5)), (d6, .inl (w6, 10, .inl e6)), (d7, .inl (w7, 10, .inl e7)), (d8, .inl (w8, 10, .inl e8)), (d9, .inl (w9, 10, .inl e9)), (d10, .inl (w10, 4, .inl e10)), (d11, .inl (w11, 4, .inl e11)), (d12, .inl (w12, 4, .inl e12)), (d13, .inl (w13, 9, .inr (.inl e13))), (hF, .inr (2, [.ref f0, .ref f1, .ref f2, .ref f3, .ref f4, .int sn, .int (nI (ks)), .int (nI (kw))])), (f0, .inl (z0, 10, .inl g0)), (f1, .inl (z1, 10, .inl g1)), (f2, .inl (z2, 10, .inl g2)), (f3, .inl (z3, 10, .inl g3)), (f4, .inl (z4, 4, .inl g4)), (jK, .inr (5, [.ref k0, .ref k1])), (k0, .inl (cK, 8, .inl l0)), (k1, .inl (cO, 32, .inl l1))] s.heap := hP
  have hl := lv_entry ([.ref jC]) (n := 3) (Nat.le_of_ble_eq_true rfl)
  rw [lg_entry_eq]
  generalize (lg_sl ([.ref jC]) ++ List.replicate (3 - (lg_sl ([.ref jC])).length) Slot.unset).toArray = ls at hl ⊢
  have hl : lv_has ls 3 [(0, .ref jC)] := hl
  refine kQ (fun Q hQ => ?_)
  refine lv_iconst (v := 0) hx hb dX1_whoGaveUp_0 kc_i_0 ?_
  refine lv_istore_n hx hb dX1_whoGaveUp_1 rfl hl kc_l_1_3 (kTo [(1, .int 0), (0, .ref jC)]) (fun ls hl => ?_)
  refine lv_iconst (v := 0) hx hb dX1_whoGaveUp_2 kc_i_0 ?_
  refine lv_istore_n hx hb dX1_whoGaveUp_3 rfl hl kc_l_2_3 (kTo [(2, .int 0), (1, .int 0), (0, .ref jC)]) (fun ls hl => ?_)
  have lp_k_1 : ∀ (n9 : Nat) (i : Nat) (x1 : Int32) (ivk_1_0 : i ≤ ks) (ls : Array Slot) (_ : lv_has ls 3 [(2, .int (nI (i))), (1, .int x1), (0, .ref jC)]) (_ : ks - i < n9), W p l e (headSpec w_s_whoGaveUp1 ({ frames := 3, cells := 0, slots := 0, locals := 180 })).room s m (#[.ref jC] : Array Value) below meth c s.heap [] 0 0 Q (F0 m 4 ls []) := by
    intro n9
    induction n9 with
    | zero => intro i x1 ivk_1_0 ls hl hm9; exact absurd hm9 (Nat.not_lt_zero _)
    | succ n9 ih_k_1 =>
      intro i x1 ivk_1_0 ls hl hm9
      refine lv_iload_n hx hb dX1_whoGaveUp_4 rfl (lv_at hl 0 rfl) ?_
      refine lv_aload_n hx hb dX1_whoGaveUp_5 rfl (lv_at hl 2 rfl) ?_
      refine va_get (D := (dC, dI)) (ci := 1) (v := .ref hF) (C := RX1) (T := TX1) (N := 19) hx hb hts (fun _ h => List.mem_cons_of_mem _ (List.mem_append_right _ (List.mem_append_left _ h))) hown hK hP 0 rfl rfl 0 kc_l_0_19 (hts (.fieldLink RX1 67 "NotEnded$Course" "folk" "LNotEnded$Folk;") (List.mem_cons_of_mem _ (List.mem_append_left _ (List.mem_of_getElem? (i := 0) rfl)))) (fun _ h9 => h9) rfl dX1_whoGaveUp_6 ?_
      have hPc := hP.sb (ws2 := [(hF, .inr (2, [.ref f0, .ref f1, .ref f2, .ref f3, .ref f4, .int sn, .int (nI (ks)), .int (nI (kw))])), (f0, .inl (z0, 10, .inl g0)), (f1, .inl (z1, 10, .inl g1)), (f2, .inl (z2, 10, .inl g2)), (f3, .inl (z3, 10, .inl g3)), (f4, .inl (z4, 4, .inl g4))]) [13, 14, 15, 16, 17, 18] rfl
      have hKc := hK.sb (tys2 := [(z0, .int), (z1, .int), (z2, .int), (z3, .int), (z4, .int)]) [12, 13, 14, 15, 16] rfl
      refine vp_callSi (va_runV (As := []) (rest := [.int (nI (i))]) ⟨hx, hb, hml, hown, hts⟩ (s_size2 l dC dI hF f0 f1 f2 f3 f4 z0 z1 z2 z3 z4 g0 g1 g2 g3 g4 sn ks kw hks hkw) (cwV 0 hts (kG (List.forall_mem_cons.mpr ⟨(List.mem_cons_of_mem _ (List.mem_append_left _ (List.mem_of_getElem? (i := 4) rfl))), (List.forall_mem_cons.mpr ⟨(List.mem_cons_of_mem _ (List.mem_append_left _ (List.mem_of_getElem? (i := 3) rfl))), (List.forall_mem_cons.mpr ⟨(List.mem_cons_of_mem _ (List.mem_append_left _ (List.mem_of_getElem? (i := 2) rfl))), (List.forall_mem_cons.mpr ⟨(List.mem_cons_of_mem _ (List.mem_append_left _ (List.mem_of_getElem? (i := 1) rfl))), (fun _ h => absurd h List.not_mem_nil)⟩)⟩)⟩)⟩) (kGV _ _ _ _) (fun _ h => List.mem_cons_of_mem _ (List.mem_append_right _ (List.mem_append_right _ (List.mem_append_left _ h)))) gw_s_size2) rfl rfl rfl ⟨rfl, hd_X2_size⟩ ⟨(Nat.le_of_ble_eq_true rfl), (Nat.le_of_ble_eq_true rfl)⟩) (kR_V kT_blind kT_give (va_recv hKc hPc (ci := 2) (q0 := 0) rfl rfl) hPc hKc) rfl rfl hl.1 rfl (lv_room (Nat.le_of_ble_eq_true rfl)) dX1_whoGaveUp_9 ⟨(Nat.le_of_ble_eq_true rfl), (Nat.le_of_ble_eq_true rfl)⟩).run (fun r_2 hw => ?_)
      obtain rfl : r_2 = nI (ks) := hw
      refine lv_icmp_ge (tgt := 49) hx hb dX1_whoGaveUp_12 kc_t_12_37 (fun c_3 => ?_) (fun c_3 => ?_)
      · have bd_5 : ks < 2147483648 := by omega
        have bd_6 : i < 2147483648 := by omega
        have hn_4 := kle (a := ks) (b := i) bd_5 bd_6 c_3
        refine lv_iload_n hx hb dX1_whoGaveUp_49 rfl (lv_at hl 1 rfl) ?_
        rw [hQ]
        exact W.iret (v := x1) hx hb hr (fun t ht hW => ⟨x1, rfl, trivial, ht⟩) (fun _ h => nomatch h) dX1_whoGaveUp_50
      · have bd_8 : ks < 2147483648 := by omega
        have bd_9 : i < 2147483648 := by omega
        have hn_7 := knle (a := ks) (b := i) bd_8 bd_9 c_3
        refine lv_aload_n hx hb dX1_whoGaveUp_15 rfl (lv_at hl 2 rfl) ?_
        refine va_get (D := (dC, dI)) (ci := 1) (v := .int pr) (C := RX1) (T := TX1) (N := 19) hx hb hts (fun _ h => List.mem_cons_of_mem _ (List.mem_append_right _ (List.mem_append_left _ h))) hown hK hP 0 rfl rfl 16 kc_l_16_19 (hts (.fieldLink RX1 57 "NotEnded$Course" "present" "I") (List.mem_cons_of_mem _ (List.mem_append_left _ (List.mem_of_getElem? (i := 5) rfl)))) (fun _ h9 => h9) rfl dX1_whoGaveUp_16 ?_
        refine lv_iload_n hx hb dX1_whoGaveUp_19 rfl (lv_at hl 0 rfl) ?_
        have hPc := hP.sb (ws2 := []) [] rfl
        have hKc := hK.sb (tys2 := []) [] rfl
        refine vp_callSi (va_runSN (As := [.int pr, .int (nI (i))]) (rest := []) ⟨hx, hb, hml, hown, hts⟩ (s_isBit9 l dC dI pr (nI (i))) (⟨va_cnB 2 hts (goodIn_sub (fun _ h => List.mem_cons_of_mem _ (List.mem_append_right _ (List.mem_append_right _ (List.mem_append_right _ h)))) gw_s_isBit9) rfl rfl rfl (hX.2 _ (List.mem_of_getElem? (i := 12) rfl)) (hts (.initialized RX9) (List.mem_cons_of_mem _ (List.mem_append_left _ (List.mem_of_getElem? (i := 6) rfl)))) hd_X9_isBit ⟨(Nat.le_of_ble_eq_true rfl), (Nat.le_of_ble_eq_true rfl)⟩, (hts (.static yX9_isBit) (List.mem_cons_of_mem _ (List.mem_append_left _ (List.mem_of_getElem? (i := 7) rfl)))), trivial⟩) (kR_S kT_blind kT_give hPc hKc) rfl rfl hl.1 rfl (lv_room (Nat.le_of_ble_eq_true rfl)) dX1_whoGaveUp_20 ⟨(Nat.le_of_ble_eq_true rfl), (Nat.le_of_ble_eq_true rfl)⟩).run (fun r_10 hw => ?_)
        have hw_11 := hw
        refine lv_if_eq (tgt := 43) hx hb dX1_whoGaveUp_23 kc_t_23_20 (fun c_12 => ?_) (fun c_12 => ?_)
        · refine lv_iinc (v := nI (i + 1)) hx hb dX1_whoGaveUp_43 hl (k := 0) rfl (kInc _ 1) kc_l_2_3 (kTo [(2, .int (nI (i + 1))), (1, .int x1), (0, .ref jC)]) (fun ls hl => ?_)
          refine lv_goto (tgt := 4) hx hb dX1_whoGaveUp_46 kc_t_46_m42 ?_
          exact ih_k_1 (i + 1) x1 (by omega) ls (lv_sub hl [0, 1, 2] rfl) (by omega)
        · refine lv_aload_n hx hb dX1_whoGaveUp_26 rfl (lv_at hl 2 rfl) ?_
          refine va_get (D := (dC, dI)) (ci := 1) (v := .ref d2) (C := RX1) (T := TX1) (N := 19) hx hb hts (fun _ h => List.mem_cons_of_mem _ (List.mem_append_right _ (List.mem_append_left _ h))) hown hK hP 0 rfl rfl 2 kc_l_2_19 (hts (.fieldLink RX1 9 "NotEnded$Course" "held" "[I") (List.mem_cons_of_mem _ (List.mem_append_left _ (List.mem_of_getElem? (i := 8) rfl)))) (fun _ h9 => h9) rfl dX1_whoGaveUp_27 ?_
          refine lv_iload_n hx hb dX1_whoGaveUp_30 rfl (lv_at hl 0 rfl) ?_
          have bd_13 : i < 10 := by omega
          refine va_iald hx hb hK hP 1 0 rfl rfl (vp_in_nI (n := i) (N := 10) bd_13 kc_31_10) dX1_whoGaveUp_31 ?_
          refine lv_topi (fun x_14 ex_14 => ?_)
          refine lv_bipush (v := 20) hx hb dX1_whoGaveUp_32 kc_b_20 ?_
          refine lv_icmp_ge (tgt := 43) hx hb dX1_whoGaveUp_34 kc_t_34_9 (fun c_15 => ?_) (fun c_15 => ?_)
          · refine lv_iinc (v := nI (i + 1)) hx hb dX1_whoGaveUp_43 hl (k := 0) rfl (kInc _ 1) kc_l_2_3 (kTo [(2, .int (nI (i + 1))), (1, .int x1), (0, .ref jC)]) (fun ls hl => ?_)
            refine lv_goto (tgt := 4) hx hb dX1_whoGaveUp_46 kc_t_46_m42 ?_
            exact ih_k_1 (i + 1) x1 (by omega) ls (lv_sub hl [0, 1, 2] rfl) (by omega)
          · refine lv_iload_n hx hb dX1_whoGaveUp_37 rfl (lv_at hl 1 rfl) ?_
            refine lv_iconst (v := 1) hx hb dX1_whoGaveUp_38 kc_i_1 ?_
            refine lv_iload_n hx hb dX1_whoGaveUp_39 rfl (lv_at hl 0 rfl) ?_
            refine lv_ishl hx hb dX1_whoGaveUp_40 ?_
            refine lv_topi (fun x_16 ex_16 => ?_)
            refine lv_ior hx hb dX1_whoGaveUp_41 ?_
            refine lv_topi (fun x_17 ex_17 => ?_)
            refine lv_istore_n hx hb dX1_whoGaveUp_42 rfl hl kc_l_1_3 (kTo [(1, .int x_17), (2, .int (nI (i))), (0, .ref jC)]) (fun ls hl => ?_)
            refine lv_iinc (v := nI (i + 1)) hx hb dX1_whoGaveUp_43 hl (k := 1) rfl (kInc _ 1) kc_l_2_3 (kTo [(2, .int (nI (i + 1))), (1, .int x_17), (0, .ref jC)]) (fun ls hl => ?_)
            refine lv_goto (tgt := 4) hx hb dX1_whoGaveUp_46 kc_t_46_m42 ?_
            exact ih_k_1 (i + 1) x_17 (by omega) ls (lv_sub hl [0, 1, 2] rfl) (by omega)
  exact lp_k_1 (ks - 0 + 1) 0 0 (by omega) ls (lv_sub hl [0, 1, 2] rfl) (by omega)

theorem dX1_whoHoldsOn_0 : decode cX1_whoHoldsOn 0 = .ok (.iconst 0, 1) := kDs0 kf_3 (by decide +kernel)
theorem dX1_whoHoldsOn_1 : decode cX1_whoHoldsOn 1 = .ok (.istore_n 1, 1) := kDs0 kf_60 (by decide +kernel)
theorem dX1_whoHoldsOn_2 : decode cX1_whoHoldsOn 2 = .ok (.iconst 0, 1) := kDs0 kf_3 (by decide +kernel)
theorem dX1_whoHoldsOn_3 : decode cX1_whoHoldsOn 3 = .ok (.istore_n 2, 1) := kDs0 kf_61 (by decide +kernel)
theorem dX1_whoHoldsOn_4 : decode cX1_whoHoldsOn 4 = .ok (.iload_n 2, 1) := kDs0 kf_28 (by decide +kernel)
theorem dX1_whoHoldsOn_5 : decode cX1_whoHoldsOn 5 = .ok (.aload_n 0, 1) := kDs0 kf_42 (by decide +kernel)
theorem dX1_whoHoldsOn_6 : decode cX1_whoHoldsOn 6 = .ok (.getfield 67, 3) := kDs2 kf_180 (by decide +kernel)
theorem dX1_whoHoldsOn_9 : decode cX1_whoHoldsOn 9 = .ok (.invokevirtual 84, 3) := kDs2 kf_182 (by decide +kernel)
theorem dX1_whoHoldsOn_12 : decode cX1_whoHoldsOn 12 = .ok (.if_icmp .ge 37, 3) := kDs4 kf_162 (by decide +kernel)
theorem dX1_whoHoldsOn_49 : decode cX1_whoHoldsOn 49 = .ok (.iload_n 1, 1) := kDs0 kf_27 (by decide +kernel)
theorem dX1_whoHoldsOn_50 : decode cX1_whoHoldsOn 50 = .ok (.ireturn, 1) := kDs0 kf_172 (by decide +kernel)
theorem dX1_whoHoldsOn_15 : decode cX1_whoHoldsOn 15 = .ok (.aload_n 0, 1) := kDs0 kf_42 (by decide +kernel)
theorem dX1_whoHoldsOn_16 : decode cX1_whoHoldsOn 16 = .ok (.getfield 61, 3) := kDs2 kf_180 (by decide +kernel)
theorem dX1_whoHoldsOn_19 : decode cX1_whoHoldsOn 19 = .ok (.iload_n 2, 1) := kDs0 kf_28 (by decide +kernel)
theorem dX1_whoHoldsOn_20 : decode cX1_whoHoldsOn 20 = .ok (.invokestatic 116, 3) := kDs2 kf_184 (by decide +kernel)
theorem dX1_whoHoldsOn_23 : decode cX1_whoHoldsOn 23 = .ok (.ifCond .eq 20, 3) := kDs4 kf_153 (by decide +kernel)
theorem dX1_whoHoldsOn_43 : decode cX1_whoHoldsOn 43 = .ok (.iinc 2 1, 3) := kDs5 kf_132 (by decide +kernel)
theorem dX1_whoHoldsOn_46 : decode cX1_whoHoldsOn 46 = .ok (.goto (-42), 3) := kDs4 kf_167 (by decide +kernel)
theorem dX1_whoHoldsOn_26 : decode cX1_whoHoldsOn 26 = .ok (.aload_n 0, 1) := kDs0 kf_42 (by decide +kernel)
theorem dX1_whoHoldsOn_27 : decode cX1_whoHoldsOn 27 = .ok (.getfield 9, 3) := kDs2 kf_180 (by decide +kernel)
theorem dX1_whoHoldsOn_30 : decode cX1_whoHoldsOn 30 = .ok (.iload_n 2, 1) := kDs0 kf_28 (by decide +kernel)
theorem dX1_whoHoldsOn_31 : decode cX1_whoHoldsOn 31 = .ok (.iaload, 1) := kDs0 kf_46 (by decide +kernel)
theorem dX1_whoHoldsOn_32 : decode cX1_whoHoldsOn 32 = .ok (.bipush 50, 2) := kDs3 kf_16 (by decide +kernel)
theorem dX1_whoHoldsOn_34 : decode cX1_whoHoldsOn 34 = .ok (.if_icmp .lt 9, 3) := kDs4 kf_161 (by decide +kernel)
theorem dX1_whoHoldsOn_37 : decode cX1_whoHoldsOn 37 = .ok (.iload_n 1, 1) := kDs0 kf_27 (by decide +kernel)
theorem dX1_whoHoldsOn_38 : decode cX1_whoHoldsOn 38 = .ok (.iconst 1, 1) := kDs0 kf_4 (by decide +kernel)
theorem dX1_whoHoldsOn_39 : decode cX1_whoHoldsOn 39 = .ok (.iload_n 2, 1) := kDs0 kf_28 (by decide +kernel)
theorem dX1_whoHoldsOn_40 : decode cX1_whoHoldsOn 40 = .ok (.ishl, 1) := kDs0 kf_120 (by decide +kernel)
theorem dX1_whoHoldsOn_41 : decode cX1_whoHoldsOn 41 = .ok (.ior, 1) := kDs0 kf_128 (by decide +kernel)
theorem dX1_whoHoldsOn_42 : decode cX1_whoHoldsOn 42 = .ok (.istore_n 1, 1) := kDs0 kf_60 (by decide +kernel)
def w_s_whoHoldsOn1 : List Cond := .code yX1_whoHoldsOn cX1_whoHoldsOn 3 (some .int) :: ([.fieldLink RX1 67 "NotEnded$Course" "folk" "LNotEnded$Folk;", .initialized RX2, .selects RX2 yX2_size yX2_size, .instanceMethod yX2_size, .methodLink RX1 84 yX2_size, .fieldLink RX1 61 "NotEnded$Course" "moved" "I", .initialized RX9, .static yX9_isBit, .fieldLink RX1 9 "NotEnded$Course" "held" "[I"] ++ (wsX10 ++ (w_s_size2 ++ (w_s_isBit9))))
theorem gw_s_whoHoldsOn1 : (w_s_whoHoldsOn1).all goodWord = true := kGc rfl (kGa (by decide +kernel) (kGa gw_wsX10 (kGa gw_s_size2 gw_s_isBit9)))
theorem hd_X1_whoHoldsOn : yX1_whoHoldsOn.cls ≠ "java/lang/invoke/MethodHandle" ∧ yX1_whoHoldsOn.cls ≠ "java/lang/invoke/VarHandle" ∧ (parseMethodDescriptor yX1_whoHoldsOn.desc).map (fun d => d.parameters.length) = some 0 := by decide +kernel
set_option maxHeartbeats 4000000 in
set_option maxRecDepth 100000 in
theorem s_whoHoldsOn1 (l : Launch) (dC : Nat → ClassId) (dI : Nat → Nat → Nat) (jC : Nat) (d2 : Nat) (d3 : Nat) (d4 : Nat) (d5 : Nat) (d6 : Nat) (d7 : Nat) (d8 : Nat) (d9 : Nat) (d10 : Nat) (d11 : Nat) (d12 : Nat) (d13 : Nat) (w2 : ClassId) (w3 : ClassId) (w4 : ClassId) (w5 : ClassId) (w6 : ClassId) (w7 : ClassId) (w8 : ClassId) (w9 : ClassId) (w10 : ClassId) (w11 : ClassId) (w12 : ClassId) (w13 : ClassId) (e2 : Nat → Int32) (e3 : Nat → Int32) (e4 : Nat → Int32) (e5 : Nat → Int32) (e6 : Nat → Int32) (e7 : Nat → Int32) (e8 : Nat → Int32) (e9 : Nat → Int32) (e10 : Nat → Int32) (e11 : Nat → Int32) (e12 : Nat → Int32) (e13 : Nat → Int64) (dr : Int64) (pr : Int32) (mo : Int32) (ho : Int32) (hF : Nat) (f0 : Nat) (f1 : Nat) (f2 : Nat) (f3 : Nat) (f4 : Nat) (z0 : ClassId) (z1 : ClassId) (z2 : ClassId) (z3 : ClassId) (z4 : ClassId) (g0 : Nat → Int32) (g1 : Nat → Int32) (g2 : Nat → Int32) (g3 : Nat → Int32) (g4 : Nat → Int32) (sn : Int32) (ks : Nat) (kw : Nat) (hks : ks ≤ 10) (hkw : kw ≤ 4) (jK : Nat) (k0 : Nat) (k1 : Nat) (cK : ClassId) (cO : ClassId) (l0 : Nat → Int32) (l1 : Nat → Int32) (ru : Nat) (sA : Nat) (cl : Nat) (cS : ClassId) (cc : ClassId) (nS : Nat) (nC : Nat) (gS : Nat → Int32) (gC : Nat → Int32) (hnS : nS ≤ 200) (hnC : nC ≤ 200) (A : Nat → Prop) : Met l yX1_whoHoldsOn w_s_whoHoldsOn1 ({ frames := 3, cells := 0, slots := 0, locals := 180 }) (kR dC dI [.ref jC] [(jC, .inr (1, [.ref hF, .ref jK, .ref d2, .ref d3, .ref d4, .ref d5, .ref d6, .ref d7, .ref d8, .ref d9, .ref d10, .ref d11, .ref d12, .ref d13, .ref ru, .long dr, .int pr, .int mo, .int ho])), (d2, .inl (w2, 10, .inl e2)), (d3, .inl (w3, 10, .inl e3)), (d4, .inl (w4, 10, .inl e4)), (d5, .inl (w5, 10, .inl e5)), (d6, .inl (w6, 10, .inl e6)), (d7, .inl (w7, 10, .inl e7)), (d8, .inl (w8, 10, .inl e8)), (d9, .inl (w9, 10, .inl e9)), (d10, .inl (w10, 4, .inl e10)), (d11, .inl (w11, 4, .inl e11)), (d12, .inl (w12, 4, .inl e12)), (d13, .inl (w13, 9, .inr (.inl e13))), (hF, .inr (2, [.ref f0, .ref f1, .ref f2, .ref f3, .ref f4, .int sn, .int (nI (ks)), .int (nI (kw))])), (f0, .inl (z0, 10, .inl g0)), (f1, .inl (z1, 10, .inl g1)), (f2, .inl (z2, 10, .inl g2)), (f3, .inl (z3, 10, .inl g3)), (f4, .inl (z4, 4, .inl g4)), (jK, .inr (5, [.ref k0, .ref k1])), (k0, .inl (cK, 8, .inl l0)), (k1, .inl (cO, 32, .inl l1))] [(w2, .int), (w3, .int), (w4, .int), (w5, .int), (w6, .int), (w7, .int), (w8, .int), (w9, .int), (w10, .int), (w11, .int), (w12, .int), (w13, .long), (z0, .int), (z1, .int), (z2, .int), (z3, .int), (z4, .int), (cK, .int), (cO, .int), (cS, .int), (cc, .int)] (kNF dC dI [(ru, .inr (6, [.ref sA, .ref cl])), (sA, .inl (cS, nS, .inl gS)), (cl, .inl (cc, nC, .inl gC))] A)) (vp_Si (fun r : Int32 => True)) 0 0 (fun _ => False) := by
  refine Met.ofW (cc := cX1_whoHoldsOn) (maxL := 3) (ret := (some .int)) (by decide) rfl ?_
  intro p e s m args below meth c s₁ B hml hv
  obtain ⟨rfl, hP, hK, hX⟩ := hv
  have hx := B.exec
  have hb := B.bytes
  have hr := B.returns
  have hts := atoms_spec (ws := w_s_whoHoldsOn1) B.pre
  have hown : s.vm.findClass RX1 = some m.cls := findClass_of_methodNamed B.named
  have hlocks := B.notSynchronized
  have hS : va_S A s.heap s.heap [] := va_S.rf
  have hP : va_P (dC, dI) vwCl [(jC, .inr (1, [.ref hF, .ref jK, .ref d2, .ref d3, .ref d4, .ref d5, .ref d6, .ref d7, .ref d8, .ref d9, .ref d10, .ref d11, .ref d12, .ref d13, .ref ru, .long dr, .int pr, .int mo, .int ho])), (d2, .inl (w2, 10, .inl e2)), (d3, .inl (w3, 10, .inl e3)), (d4, .inl (w4, 10, .inl e4)), (d5, .inl (w5, 10, .inl e5)), (d6, .inl (w6, 10, .inl e6)), (d7, .inl (w7, 10, .inl e7)), (d8, .inl (w8, 10, .inl e8)), (d9, .inl (w9, 10, .inl e9)), (d10, .inl (w10, 4, .inl e10)), (d11, .inl (w11, 4, .inl e11)), (d12, .inl (w12, 4, .inl e12)), (d13, .inl (w13, 9, .inr (.inl e13))), (hF, .inr (2, [.ref f0, .ref f1, .ref f2, .ref f3, .ref f4, .int sn, .int (nI (ks)), .int (nI (kw))])), (f0, .inl (z0, 10, .inl g0)), (f1, .inl (z1, 10, .inl g1)), (f2, .inl (z2, 10, .inl g2)), (f3, .inl (z3, 10, .inl g3)), (f4, .inl (z4, 4, .inl g4)), (jK, .inr (5, [.ref k0, .ref k1])), (k0, .inl (cK, 8, .inl l0)), (k1, .inl (cO, 32, .inl l1))] s.heap := hP
  have hl := lv_entry ([.ref jC]) (n := 3) (Nat.le_of_ble_eq_true rfl)
  rw [lg_entry_eq]
  generalize (lg_sl ([.ref jC]) ++ List.replicate (3 - (lg_sl ([.ref jC])).length) Slot.unset).toArray = ls at hl ⊢
  have hl : lv_has ls 3 [(0, .ref jC)] := hl
  refine kQ (fun Q hQ => ?_)
  refine lv_iconst (v := 0) hx hb dX1_whoHoldsOn_0 kc_i_0 ?_
  refine lv_istore_n hx hb dX1_whoHoldsOn_1 rfl hl kc_l_1_3 (kTo [(1, .int 0), (0, .ref jC)]) (fun ls hl => ?_)
  refine lv_iconst (v := 0) hx hb dX1_whoHoldsOn_2 kc_i_0 ?_
  refine lv_istore_n hx hb dX1_whoHoldsOn_3 rfl hl kc_l_2_3 (kTo [(2, .int 0), (1, .int 0), (0, .ref jC)]) (fun ls hl => ?_)
  have lp_k_1 : ∀ (n9 : Nat) (i : Nat) (x1 : Int32) (ivk_1_0 : i ≤ ks) (ls : Array Slot) (_ : lv_has ls 3 [(2, .int (nI (i))), (1, .int x1), (0, .ref jC)]) (_ : ks - i < n9), W p l e (headSpec w_s_whoHoldsOn1 ({ frames := 3, cells := 0, slots := 0, locals := 180 })).room s m (#[.ref jC] : Array Value) below meth c s.heap [] 0 0 Q (F0 m 4 ls []) := by
    intro n9
    induction n9 with
    | zero => intro i x1 ivk_1_0 ls hl hm9; exact absurd hm9 (Nat.not_lt_zero _)
    | succ n9 ih_k_1 =>
      intro i x1 ivk_1_0 ls hl hm9
      refine lv_iload_n hx hb dX1_whoHoldsOn_4 rfl (lv_at hl 0 rfl) ?_
      refine lv_aload_n hx hb dX1_whoHoldsOn_5 rfl (lv_at hl 2 rfl) ?_
      refine va_get (D := (dC, dI)) (ci := 1) (v := .ref hF) (C := RX1) (T := TX1) (N := 19) hx hb hts (fun _ h => List.mem_cons_of_mem _ (List.mem_append_right _ (List.mem_append_left _ h))) hown hK hP 0 rfl rfl 0 kc_l_0_19 (hts (.fieldLink RX1 67 "NotEnded$Course" "folk" "LNotEnded$Folk;") (List.mem_cons_of_mem _ (List.mem_append_left _ (List.mem_of_getElem? (i := 0) rfl)))) (fun _ h9 => h9) rfl dX1_whoHoldsOn_6 ?_
      have hPc := hP.sb (ws2 := [(hF, .inr (2, [.ref f0, .ref f1, .ref f2, .ref f3, .ref f4, .int sn, .int (nI (ks)), .int (nI (kw))])), (f0, .inl (z0, 10, .inl g0)), (f1, .inl (z1, 10, .inl g1)), (f2, .inl (z2, 10, .inl g2)), (f3, .inl (z3, 10, .inl g3)), (f4, .inl (z4, 4, .inl g4))]) [13, 14, 15, 16, 17, 18] rfl
      have hKc := hK.sb (tys2 := [(z0, .int), (z1, .int), (z2, .int), (z3, .int), (z4, .int)]) [12, 13, 14, 15, 16] rfl
      refine vp_callSi (va_runV (As := []) (rest := [.int (nI (i))]) ⟨hx, hb, hml, hown, hts⟩ (s_size2 l dC dI hF f0 f1 f2 f3 f4 z0 z1 z2 z3 z4 g0 g1 g2 g3 g4 sn ks kw hks hkw) (cwV 0 hts (kG (List.forall_mem_cons.mpr ⟨(List.mem_cons_of_mem _ (List.mem_append_left _ (List.mem_of_getElem? (i := 4) rfl))), (List.forall_mem_cons.mpr ⟨(List.mem_cons_of_mem _ (List.mem_append_left _ (List.mem_of_getElem? (i := 3) rfl))), (List.forall_mem_cons.mpr ⟨(List.mem_cons_of_mem _ (List.mem_append_left _ (List.mem_of_getElem? (i := 2) rfl))), (List.forall_mem_cons.mpr ⟨(List.mem_cons_of_mem _ (List.mem_append_left _ (List.mem_of_getElem? (i := 1) rfl))), (fun _ h => absurd h List.not_mem_nil)⟩)⟩)⟩)⟩) (kGV _ _ _ _) (fun _ h => List.mem_cons_of_mem _ (List.mem_append_right _ (List.mem_append_right _ (List.mem_append_left _ h)))) gw_s_size2) rfl rfl rfl ⟨rfl, hd_X2_size⟩ ⟨(Nat.le_of_ble_eq_true rfl), (Nat.le_of_ble_eq_true rfl)⟩) (kR_V kT_blind kT_give (va_recv hKc hPc (ci := 2) (q0 := 0) rfl rfl) hPc hKc) rfl rfl hl.1 rfl (lv_room (Nat.le_of_ble_eq_true rfl)) dX1_whoHoldsOn_9 ⟨(Nat.le_of_ble_eq_true rfl), (Nat.le_of_ble_eq_true rfl)⟩).run (fun r_2 hw => ?_)
      obtain rfl : r_2 = nI (ks) := hw
      refine lv_icmp_ge (tgt := 49) hx hb dX1_whoHoldsOn_12 kc_t_12_37 (fun c_3 => ?_) (fun c_3 => ?_)
      · have bd_5 : ks < 2147483648 := by omega
        have bd_6 : i < 2147483648 := by omega
        have hn_4 := kle (a := ks) (b := i) bd_5 bd_6 c_3
        refine lv_iload_n hx hb dX1_whoHoldsOn_49 rfl (lv_at hl 1 rfl) ?_
        rw [hQ]
        exact W.iret (v := x1) hx hb hr (fun t ht hW => ⟨x1, rfl, trivial, ht⟩) (fun _ h => nomatch h) dX1_whoHoldsOn_50
      · have bd_8 : ks < 2147483648 := by omega
        have bd_9 : i < 2147483648 := by omega
        have hn_7 := knle (a := ks) (b := i) bd_8 bd_9 c_3
        refine lv_aload_n hx hb dX1_whoHoldsOn_15 rfl (lv_at hl 2 rfl) ?_
        refine va_get (D := (dC, dI)) (ci := 1) (v := .int mo) (C := RX1) (T := TX1) (N := 19) hx hb hts (fun _ h => List.mem_cons_of_mem _ (List.mem_append_right _ (List.mem_append_left _ h))) hown hK hP 0 rfl rfl 17 kc_l_17_19 (hts (.fieldLink RX1 61 "NotEnded$Course" "moved" "I") (List.mem_cons_of_mem _ (List.mem_append_left _ (List.mem_of_getElem? (i := 5) rfl)))) (fun _ h9 => h9) rfl dX1_whoHoldsOn_16 ?_
        refine lv_iload_n hx hb dX1_whoHoldsOn_19 rfl (lv_at hl 0 rfl) ?_
        have hPc := hP.sb (ws2 := []) [] rfl
        have hKc := hK.sb (tys2 := []) [] rfl
        refine vp_callSi (va_runSN (As := [.int mo, .int (nI (i))]) (rest := []) ⟨hx, hb, hml, hown, hts⟩ (s_isBit9 l dC dI mo (nI (i))) (⟨va_cnB 2 hts (goodIn_sub (fun _ h => List.mem_cons_of_mem _ (List.mem_append_right _ (List.mem_append_right _ (List.mem_append_right _ h)))) gw_s_isBit9) rfl rfl rfl (hX.2 _ (List.mem_of_getElem? (i := 12) rfl)) (hts (.initialized RX9) (List.mem_cons_of_mem _ (List.mem_append_left _ (List.mem_of_getElem? (i := 6) rfl)))) hd_X9_isBit ⟨(Nat.le_of_ble_eq_true rfl), (Nat.le_of_ble_eq_true rfl)⟩, (hts (.static yX9_isBit) (List.mem_cons_of_mem _ (List.mem_append_left _ (List.mem_of_getElem? (i := 7) rfl)))), trivial⟩) (kR_S kT_blind kT_give hPc hKc) rfl rfl hl.1 rfl (lv_room (Nat.le_of_ble_eq_true rfl)) dX1_whoHoldsOn_20 ⟨(Nat.le_of_ble_eq_true rfl), (Nat.le_of_ble_eq_true rfl)⟩).run (fun r_10 hw => ?_)
        have hw_11 := hw
        refine lv_if_eq (tgt := 43) hx hb dX1_whoHoldsOn_23 kc_t_23_20 (fun c_12 => ?_) (fun c_12 => ?_)
        · refine lv_iinc (v := nI (i + 1)) hx hb dX1_whoHoldsOn_43 hl (k := 0) rfl (kInc _ 1) kc_l_2_3 (kTo [(2, .int (nI (i + 1))), (1, .int x1), (0, .ref jC)]) (fun ls hl => ?_)
          refine lv_goto (tgt := 4) hx hb dX1_whoHoldsOn_46 kc_t_46_m42 ?_
          exact ih_k_1 (i + 1) x1 (by omega) ls (lv_sub hl [0, 1, 2] rfl) (by omega)
        · refine lv_aload_n hx hb dX1_whoHoldsOn_26 rfl (lv_at hl 2 rfl) ?_
          refine va_get (D := (dC, dI)) (ci := 1) (v := .ref d2) (C := RX1) (T := TX1) (N := 19) hx hb hts (fun _ h => List.mem_cons_of_mem _ (List.mem_append_right _ (List.mem_append_left _ h))) hown hK hP 0 rfl rfl 2 kc_l_2_19 (hts (.fieldLink RX1 9 "NotEnded$Course" "held" "[I") (List.mem_cons_of_mem _ (List.mem_append_left _ (List.mem_of_getElem? (i := 8) rfl)))) (fun _ h9 => h9) rfl dX1_whoHoldsOn_27 ?_
          refine lv_iload_n hx hb dX1_whoHoldsOn_30 rfl (lv_at hl 0 rfl) ?_
          have bd_13 : i < 10 := by omega
          refine va_iald hx hb hK hP 1 0 rfl rfl (vp_in_nI (n := i) (N := 10) bd_13 kc_31_10) dX1_whoHoldsOn_31 ?_
          refine lv_topi (fun x_14 ex_14 => ?_)
          refine lv_bipush (v := 50) hx hb dX1_whoHoldsOn_32 kc_b_50 ?_
          refine lv_icmp_lt (tgt := 43) hx hb dX1_whoHoldsOn_34 kc_t_34_9 (fun c_15 => ?_) (fun c_15 => ?_)
          · refine lv_iinc (v := nI (i + 1)) hx hb dX1_whoHoldsOn_43 hl (k := 0) rfl (kInc _ 1) kc_l_2_3 (kTo [(2, .int (nI (i + 1))), (1, .int x1), (0, .ref jC)]) (fun ls hl => ?_)
            refine lv_goto (tgt := 4) hx hb dX1_whoHoldsOn_46 kc_t_46_m42 ?_
            exact ih_k_1 (i + 1) x1 (by omega) ls (lv_sub hl [0, 1, 2] rfl) (by omega)
          · refine lv_iload_n hx hb dX1_whoHoldsOn_37 rfl (lv_at hl 1 rfl) ?_
            refine lv_iconst (v := 1) hx hb dX1_whoHoldsOn_38 kc_i_1 ?_
            refine lv_iload_n hx hb dX1_whoHoldsOn_39 rfl (lv_at hl 0 rfl) ?_
            refine lv_ishl hx hb dX1_whoHoldsOn_40 ?_
            refine lv_topi (fun x_16 ex_16 => ?_)
            refine lv_ior hx hb dX1_whoHoldsOn_41 ?_
            refine lv_topi (fun x_17 ex_17 => ?_)
            refine lv_istore_n hx hb dX1_whoHoldsOn_42 rfl hl kc_l_1_3 (kTo [(1, .int x_17), (2, .int (nI (i))), (0, .ref jC)]) (fun ls hl => ?_)
            refine lv_iinc (v := nI (i + 1)) hx hb dX1_whoHoldsOn_43 hl (k := 1) rfl (kInc _ 1) kc_l_2_3 (kTo [(2, .int (nI (i + 1))), (1, .int x_17), (0, .ref jC)]) (fun ls hl => ?_)
            refine lv_goto (tgt := 4) hx hb dX1_whoHoldsOn_46 kc_t_46_m42 ?_
            exact ih_k_1 (i + 1) x_17 (by omega) ls (lv_sub hl [0, 1, 2] rfl) (by omega)
  exact lp_k_1 (ks - 0 + 1) 0 0 (by omega) ls (lv_sub hl [0, 1, 2] rfl) (by omega)

theorem dX1_housesThatTold_0 : decode cX1_housesThatTold 0 = .ok (.iconst 0, 1) := kDs0 kf_3 (by decide +kernel)
theorem dX1_housesThatTold_1 : decode cX1_housesThatTold 1 = .ok (.istore_n 1, 1) := kDs0 kf_60 (by decide +kernel)
theorem dX1_housesThatTold_2 : decode cX1_housesThatTold 2 = .ok (.iconst 0, 1) := kDs0 kf_3 (by decide +kernel)
theorem dX1_housesThatTold_3 : decode cX1_housesThatTold 3 = .ok (.istore_n 2, 1) := kDs0 kf_61 (by decide +kernel)
theorem dX1_housesThatTold_4 : decode cX1_housesThatTold 4 = .ok (.iload_n 2, 1) := kDs0 kf_28 (by decide +kernel)
theorem dX1_housesThatTold_5 : decode cX1_housesThatTold 5 = .ok (.aload_n 0, 1) := kDs0 kf_42 (by decide +kernel)
theorem dX1_housesThatTold_6 : decode cX1_housesThatTold 6 = .ok (.getfield 67, 3) := kDs2 kf_180 (by decide +kernel)
theorem dX1_housesThatTold_9 : decode cX1_housesThatTold 9 = .ok (.invokevirtual 84, 3) := kDs2 kf_182 (by decide +kernel)
theorem dX1_housesThatTold_12 : decode cX1_housesThatTold 12 = .ok (.if_icmp .ge 33, 3) := kDs4 kf_162 (by decide +kernel)
theorem dX1_housesThatTold_45 : decode cX1_housesThatTold 45 = .ok (.iload_n 1, 1) := kDs0 kf_27 (by decide +kernel)
theorem dX1_housesThatTold_46 : decode cX1_housesThatTold 46 = .ok (.ireturn, 1) := kDs0 kf_172 (by decide +kernel)
theorem dX1_housesThatTold_15 : decode cX1_housesThatTold 15 = .ok (.aload_n 0, 1) := kDs0 kf_42 (by decide +kernel)
theorem dX1_housesThatTold_16 : decode cX1_housesThatTold 16 = .ok (.getfield 21, 3) := kDs2 kf_180 (by decide +kernel)
theorem dX1_housesThatTold_19 : decode cX1_housesThatTold 19 = .ok (.iload_n 2, 1) := kDs0 kf_28 (by decide +kernel)
theorem dX1_housesThatTold_20 : decode cX1_housesThatTold 20 = .ok (.iaload, 1) := kDs0 kf_46 (by decide +kernel)
theorem dX1_housesThatTold_21 : decode cX1_housesThatTold 21 = .ok (.iconst (-1), 1) := kDs0 kf_2 (by decide +kernel)
theorem dX1_housesThatTold_22 : decode cX1_housesThatTold 22 = .ok (.if_icmp .eq 17, 3) := kDs4 kf_159 (by decide +kernel)
theorem dX1_housesThatTold_39 : decode cX1_housesThatTold 39 = .ok (.iinc 2 1, 3) := kDs5 kf_132 (by decide +kernel)
theorem dX1_housesThatTold_42 : decode cX1_housesThatTold 42 = .ok (.goto (-38), 3) := kDs4 kf_167 (by decide +kernel)
theorem dX1_housesThatTold_25 : decode cX1_housesThatTold 25 = .ok (.iload_n 1, 1) := kDs0 kf_27 (by decide +kernel)
theorem dX1_housesThatTold_26 : decode cX1_housesThatTold 26 = .ok (.iconst 1, 1) := kDs0 kf_4 (by decide +kernel)
theorem dX1_housesThatTold_27 : decode cX1_housesThatTold 27 = .ok (.aload_n 0, 1) := kDs0 kf_42 (by decide +kernel)
theorem dX1_housesThatTold_28 : decode cX1_housesThatTold 28 = .ok (.getfield 67, 3) := kDs2 kf_180 (by decide +kernel)
theorem dX1_housesThatTold_31 : decode cX1_housesThatTold 31 = .ok (.getfield 91, 3) := kDs2 kf_180 (by decide +kernel)
theorem dX1_housesThatTold_34 : decode cX1_housesThatTold 34 = .ok (.iload_n 2, 1) := kDs0 kf_28 (by decide +kernel)
theorem dX1_housesThatTold_35 : decode cX1_housesThatTold 35 = .ok (.iaload, 1) := kDs0 kf_46 (by decide +kernel)
theorem dX1_housesThatTold_36 : decode cX1_housesThatTold 36 = .ok (.ishl, 1) := kDs0 kf_120 (by decide +kernel)
theorem dX1_housesThatTold_37 : decode cX1_housesThatTold 37 = .ok (.ior, 1) := kDs0 kf_128 (by decide +kernel)
theorem dX1_housesThatTold_38 : decode cX1_housesThatTold 38 = .ok (.istore_n 1, 1) := kDs0 kf_60 (by decide +kernel)
def w_s_housesThatTold1 : List Cond := .code yX1_housesThatTold cX1_housesThatTold 3 (some .int) :: ([.fieldLink RX1 67 "NotEnded$Course" "folk" "LNotEnded$Folk;", .initialized RX2, .selects RX2 yX2_size yX2_size, .instanceMethod yX2_size, .methodLink RX1 84 yX2_size, .fieldLink RX1 21 "NotEnded$Course" "tellsSince" "[I"] ++ (wsX10 ++ (w_s_size2 ++ (wsX20))))
theorem gw_s_housesThatTold1 : (w_s_housesThatTold1).all goodWord = true := kGc rfl (kGa (by decide +kernel) (kGa gw_wsX10 (kGa gw_s_size2 gw_wsX20)))
theorem hd_X1_housesThatTold : yX1_housesThatTold.cls ≠ "java/lang/invoke/MethodHandle" ∧ yX1_housesThatTold.cls ≠ "java/lang/invoke/VarHandle" ∧ (parseMethodDescriptor yX1_housesThatTold.desc).map (fun d => d.parameters.length) = some 0 := by decide +kernel
set_option maxHeartbeats 4000000 in
set_option maxRecDepth 100000 in
theorem s_housesThatTold1 (l : Launch) (dC : Nat → ClassId) (dI : Nat → Nat → Nat) (jC : Nat) (d2 : Nat) (d3 : Nat) (d4 : Nat) (d5 : Nat) (d6 : Nat) (d7 : Nat) (d8 : Nat) (d9 : Nat) (d10 : Nat) (d11 : Nat) (d12 : Nat) (d13 : Nat) (w2 : ClassId) (w3 : ClassId) (w4 : ClassId) (w5 : ClassId) (w6 : ClassId) (w7 : ClassId) (w8 : ClassId) (w9 : ClassId) (w10 : ClassId) (w11 : ClassId) (w12 : ClassId) (w13 : ClassId) (e2 : Nat → Int32) (e3 : Nat → Int32) (e4 : Nat → Int32) (e5 : Nat → Int32) (e6 : Nat → Int32) (e7 : Nat → Int32) (e8 : Nat → Int32) (e9 : Nat → Int32) (e10 : Nat → Int32) (e11 : Nat → Int32) (e12 : Nat → Int32) (e13 : Nat → Int64) (dr : Int64) (pr : Int32) (mo : Int32) (ho : Int32) (hF : Nat) (f0 : Nat) (f1 : Nat) (f2 : Nat) (f3 : Nat) (f4 : Nat) (z0 : ClassId) (z1 : ClassId) (z2 : ClassId) (z3 : ClassId) (z4 : ClassId) (g0 : Nat → Int32) (g1 : Nat → Int32) (g2 : Nat → Int32) (g3 : Nat → Int32) (g4 : Nat → Int32) (sn : Int32) (ks : Nat) (kw : Nat) (hks : ks ≤ 10) (hkw : kw ≤ 4) (jK : Nat) (k0 : Nat) (k1 : Nat) (cK : ClassId) (cO : ClassId) (l0 : Nat → Int32) (l1 : Nat → Int32) (ru : Nat) (sA : Nat) (cl : Nat) (cS : ClassId) (cc : ClassId) (nS : Nat) (nC : Nat) (gS : Nat → Int32) (gC : Nat → Int32) (hnS : nS ≤ 200) (hnC : nC ≤ 200) (A : Nat → Prop) : Met l yX1_housesThatTold w_s_housesThatTold1 ({ frames := 3, cells := 0, slots := 0, locals := 180 }) (kR dC dI [.ref jC] [(jC, .inr (1, [.ref hF, .ref jK, .ref d2, .ref d3, .ref d4, .ref d5, .ref d6, .ref d7, .ref d8, .ref d9, .ref d10, .ref d11, .ref d12, .ref d13, .ref ru, .long dr, .int pr, .int mo, .int ho])), (d2, .inl (w2, 10, .inl e2)), (d3, .inl (w3, 10, .inl e3)), (d4, .inl (w4, 10, .inl e4)), (d5, .inl (w5, 10, .inl e5)), (d6, .inl (w6, 10, .inl e6)), (d7, .inl (w7, 10, .inl e7)), (d8, .inl (w8, 10, .inl e8)), (d9, .inl (w9, 10, .inl e9)), (d10, .inl (w10, 4, .inl e10)), (d11, .inl (w11, 4, .inl e11)), (d12, .inl (w12, 4, .inl e12)), (d13, .inl (w13, 9, .inr (.inl e13))), (hF, .inr (2, [.ref f0, .ref f1, .ref f2, .ref f3, .ref f4, .int sn, .int (nI (ks)), .int (nI (kw))])), (f0, .inl (z0, 10, .inl g0)), (f1, .inl (z1, 10, .inl g1)), (f2, .inl (z2, 10, .inl g2)), (f3, .inl (z3, 10, .inl g3)), (f4, .inl (z4, 4, .inl g4)), (jK, .inr (5, [.ref k0, .ref k1])), (k0, .inl (cK, 8, .inl l0)), (k1, .inl (cO, 32, .inl l1))] [(w2, .int), (w3, .int), (w4, .int), (w5, .int), (w6, .int), (w7, .int), (w8, .int), (w9, .int), (w10, .int), (w11, .int), (w12, .int), (w13, .long), (z0, .int), (z1, .int), (z2, .int), (z3, .int), (z4, .int), (cK, .int), (cO, .int), (cS, .int), (cc, .int)] (kNF dC dI [(ru, .inr (6, [.ref sA, .ref cl])), (sA, .inl (cS, nS, .inl gS)), (cl, .inl (cc, nC, .inl gC))] A)) (vp_Si (fun r : Int32 => True)) 0 0 (fun _ => False) := by
  refine Met.ofW (cc := cX1_housesThatTold) (maxL := 3) (ret := (some .int)) (by decide) rfl ?_
  intro p e s m args below meth c s₁ B hml hv
  obtain ⟨rfl, hP, hK, hX⟩ := hv
  have hx := B.exec
  have hb := B.bytes
  have hr := B.returns
  have hts := atoms_spec (ws := w_s_housesThatTold1) B.pre
  have hown : s.vm.findClass RX1 = some m.cls := findClass_of_methodNamed B.named
  have hlocks := B.notSynchronized
  have hS : va_S A s.heap s.heap [] := va_S.rf
  have hP : va_P (dC, dI) vwCl [(jC, .inr (1, [.ref hF, .ref jK, .ref d2, .ref d3, .ref d4, .ref d5, .ref d6, .ref d7, .ref d8, .ref d9, .ref d10, .ref d11, .ref d12, .ref d13, .ref ru, .long dr, .int pr, .int mo, .int ho])), (d2, .inl (w2, 10, .inl e2)), (d3, .inl (w3, 10, .inl e3)), (d4, .inl (w4, 10, .inl e4)), (d5, .inl (w5, 10, .inl e5)), (d6, .inl (w6, 10, .inl e6)), (d7, .inl (w7, 10, .inl e7)), (d8, .inl (w8, 10, .inl e8)), (d9, .inl (w9, 10, .inl e9)), (d10, .inl (w10, 4, .inl e10)), (d11, .inl (w11, 4, .inl e11)), (d12, .inl (w12, 4, .inl e12)), (d13, .inl (w13, 9, .inr (.inl e13))), (hF, .inr (2, [.ref f0, .ref f1, .ref f2, .ref f3, .ref f4, .int sn, .int (nI (ks)), .int (nI (kw))])), (f0, .inl (z0, 10, .inl g0)), (f1, .inl (z1, 10, .inl g1)), (f2, .inl (z2, 10, .inl g2)), (f3, .inl (z3, 10, .inl g3)), (f4, .inl (z4, 4, .inl g4)), (jK, .inr (5, [.ref k0, .ref k1])), (k0, .inl (cK, 8, .inl l0)), (k1, .inl (cO, 32, .inl l1))] s.heap := hP
  have hl := lv_entry ([.ref jC]) (n := 3) (Nat.le_of_ble_eq_true rfl)
  rw [lg_entry_eq]
  generalize (lg_sl ([.ref jC]) ++ List.replicate (3 - (lg_sl ([.ref jC])).length) Slot.unset).toArray = ls at hl ⊢
  have hl : lv_has ls 3 [(0, .ref jC)] := hl
  refine kQ (fun Q hQ => ?_)
  refine lv_iconst (v := 0) hx hb dX1_housesThatTold_0 kc_i_0 ?_
  refine lv_istore_n hx hb dX1_housesThatTold_1 rfl hl kc_l_1_3 (kTo [(1, .int 0), (0, .ref jC)]) (fun ls hl => ?_)
  refine lv_iconst (v := 0) hx hb dX1_housesThatTold_2 kc_i_0 ?_
  refine lv_istore_n hx hb dX1_housesThatTold_3 rfl hl kc_l_2_3 (kTo [(2, .int 0), (1, .int 0), (0, .ref jC)]) (fun ls hl => ?_)
  have lp_k_1 : ∀ (n9 : Nat) (i : Nat) (x1 : Int32) (ivk_1_0 : i ≤ ks) (ls : Array Slot) (_ : lv_has ls 3 [(2, .int (nI (i))), (1, .int x1), (0, .ref jC)]) (_ : ks - i < n9), W p l e (headSpec w_s_housesThatTold1 ({ frames := 3, cells := 0, slots := 0, locals := 180 })).room s m (#[.ref jC] : Array Value) below meth c s.heap [] 0 0 Q (F0 m 4 ls []) := by
    intro n9
    induction n9 with
    | zero => intro i x1 ivk_1_0 ls hl hm9; exact absurd hm9 (Nat.not_lt_zero _)
    | succ n9 ih_k_1 =>
      intro i x1 ivk_1_0 ls hl hm9
      refine lv_iload_n hx hb dX1_housesThatTold_4 rfl (lv_at hl 0 rfl) ?_
      refine lv_aload_n hx hb dX1_housesThatTold_5 rfl (lv_at hl 2 rfl) ?_
      refine va_get (D := (dC, dI)) (ci := 1) (v := .ref hF) (C := RX1) (T := TX1) (N := 19) hx hb hts (fun _ h => List.mem_cons_of_mem _ (List.mem_append_right _ (List.mem_append_left _ h))) hown hK hP 0 rfl rfl 0 kc_l_0_19 (hts (.fieldLink RX1 67 "NotEnded$Course" "folk" "LNotEnded$Folk;") (List.mem_cons_of_mem _ (List.mem_append_left _ (List.mem_of_getElem? (i := 0) rfl)))) (fun _ h9 => h9) rfl dX1_housesThatTold_6 ?_
      have hPc := hP.sb (ws2 := [(hF, .inr (2, [.ref f0, .ref f1, .ref f2, .ref f3, .ref f4, .int sn, .int (nI (ks)), .int (nI (kw))])), (f0, .inl (z0, 10, .inl g0)), (f1, .inl (z1, 10, .inl g1)), (f2, .inl (z2, 10, .inl g2)), (f3, .inl (z3, 10, .inl g3)), (f4, .inl (z4, 4, .inl g4))]) [13, 14, 15, 16, 17, 18] rfl
      have hKc := hK.sb (tys2 := [(z0, .int), (z1, .int), (z2, .int), (z3, .int), (z4, .int)]) [12, 13, 14, 15, 16] rfl
      refine vp_callSi (va_runV (As := []) (rest := [.int (nI (i))]) ⟨hx, hb, hml, hown, hts⟩ (s_size2 l dC dI hF f0 f1 f2 f3 f4 z0 z1 z2 z3 z4 g0 g1 g2 g3 g4 sn ks kw hks hkw) (cwV 0 hts (kG (List.forall_mem_cons.mpr ⟨(List.mem_cons_of_mem _ (List.mem_append_left _ (List.mem_of_getElem? (i := 4) rfl))), (List.forall_mem_cons.mpr ⟨(List.mem_cons_of_mem _ (List.mem_append_left _ (List.mem_of_getElem? (i := 3) rfl))), (List.forall_mem_cons.mpr ⟨(List.mem_cons_of_mem _ (List.mem_append_left _ (List.mem_of_getElem? (i := 2) rfl))), (List.forall_mem_cons.mpr ⟨(List.mem_cons_of_mem _ (List.mem_append_left _ (List.mem_of_getElem? (i := 1) rfl))), (fun _ h => absurd h List.not_mem_nil)⟩)⟩)⟩)⟩) (kGV _ _ _ _) (fun _ h => List.mem_cons_of_mem _ (List.mem_append_right _ (List.mem_append_right _ (List.mem_append_left _ h)))) gw_s_size2) rfl rfl rfl ⟨rfl, hd_X2_size⟩ ⟨(Nat.le_of_ble_eq_true rfl), (Nat.le_of_ble_eq_true rfl)⟩) (kR_V kT_blind kT_give (va_recv hKc hPc (ci := 2) (q0 := 0) rfl rfl) hPc hKc) rfl rfl hl.1 rfl (lv_room (Nat.le_of_ble_eq_true rfl)) dX1_housesThatTold_9 ⟨(Nat.le_of_ble_eq_true rfl), (Nat.le_of_ble_eq_true rfl)⟩).run (fun r_2 hw => ?_)
      obtain rfl : r_2 = nI (ks) := hw
      refine lv_icmp_ge (tgt := 45) hx hb dX1_housesThatTold_12 kc_t_12_33 (fun c_3 => ?_) (fun c_3 => ?_)
      · have bd_5 : ks < 2147483648 := by omega
        have bd_6 : i < 2147483648 := by omega
        have hn_4 := kle (a := ks) (b := i) bd_5 bd_6 c_3
        refine lv_iload_n hx hb dX1_housesThatTold_45 rfl (lv_at hl 1 rfl) ?_
        rw [hQ]
        exact W.iret (v := x1) hx hb hr (fun t ht hW => ⟨x1, rfl, trivial, ht⟩) (fun _ h => nomatch h) dX1_housesThatTold_46
      · have bd_8 : ks < 2147483648 := by omega
        have bd_9 : i < 2147483648 := by omega
        have hn_7 := knle (a := ks) (b := i) bd_8 bd_9 c_3
        refine lv_aload_n hx hb dX1_housesThatTold_15 rfl (lv_at hl 2 rfl) ?_
        refine va_get (D := (dC, dI)) (ci := 1) (v := .ref d5) (C := RX1) (T := TX1) (N := 19) hx hb hts (fun _ h => List.mem_cons_of_mem _ (List.mem_append_right _ (List.mem_append_left _ h))) hown hK hP 0 rfl rfl 5 kc_l_5_19 (hts (.fieldLink RX1 21 "NotEnded$Course" "tellsSince" "[I") (List.mem_cons_of_mem _ (List.mem_append_left _ (List.mem_of_getElem? (i := 5) rfl)))) (fun _ h9 => h9) rfl dX1_housesThatTold_16 ?_
        refine lv_iload_n hx hb dX1_housesThatTold_19 rfl (lv_at hl 0 rfl) ?_
        have bd_10 : i < 10 := by omega
        refine va_iald hx hb hK hP 4 3 rfl rfl (vp_in_nI (n := i) (N := 10) bd_10 kc_31_10) dX1_housesThatTold_20 ?_
        refine lv_topi (fun x_11 ex_11 => ?_)
        refine lv_iconst (v := (-1)) hx hb dX1_housesThatTold_21 kc_i_m1 ?_
        refine lv_icmp_eq (tgt := 39) hx hb dX1_housesThatTold_22 kc_t_22_17 (fun c_12 => ?_) (fun c_12 => ?_)
        · refine lv_iinc (v := nI (i + 1)) hx hb dX1_housesThatTold_39 hl (k := 0) rfl (kInc _ 1) kc_l_2_3 (kTo [(2, .int (nI (i + 1))), (1, .int x1), (0, .ref jC)]) (fun ls hl => ?_)
          refine lv_goto (tgt := 4) hx hb dX1_housesThatTold_42 kc_t_42_m38 ?_
          exact ih_k_1 (i + 1) x1 (by omega) ls (lv_sub hl [0, 1, 2] rfl) (by omega)
        · refine lv_iload_n hx hb dX1_housesThatTold_25 rfl (lv_at hl 1 rfl) ?_
          refine lv_iconst (v := 1) hx hb dX1_housesThatTold_26 kc_i_1 ?_
          refine lv_aload_n hx hb dX1_housesThatTold_27 rfl (lv_at hl 2 rfl) ?_
          refine va_get (D := (dC, dI)) (ci := 1) (v := .ref hF) (C := RX1) (T := TX1) (N := 19) hx hb hts (fun _ h => List.mem_cons_of_mem _ (List.mem_append_right _ (List.mem_append_left _ h))) hown hK hP 0 rfl rfl 0 kc_l_0_19 (hts (.fieldLink RX1 67 "NotEnded$Course" "folk" "LNotEnded$Folk;") (List.mem_cons_of_mem _ (List.mem_append_left _ (List.mem_of_getElem? (i := 0) rfl)))) (fun _ h9 => h9) rfl dX1_housesThatTold_28 ?_
          refine va_getN (D := (dC, dI)) (ci := 2) (v := .ref f2) (C := RX2) (T := TX2) (N := 8) hx hb hts (fun _ h => List.mem_cons_of_mem _ (List.mem_append_right _ (List.mem_append_right _ (List.mem_append_right _ h)))) hown hK hP 13 rfl rfl 2 kc_l_2_8 (va_Nw.use rfl (hX.2 _ (List.mem_of_getElem? (i := 5) rfl))) (fun _ h9 => h9) rfl dX1_housesThatTold_31 ?_
          refine lv_iload_n hx hb dX1_housesThatTold_34 rfl (lv_at hl 0 rfl) ?_
          refine va_iald hx hb hK hP 16 14 rfl rfl (vp_in_nI (n := i) (N := 10) bd_10 kc_31_10) dX1_housesThatTold_35 ?_
          refine lv_topi (fun x_13 ex_13 => ?_)
          refine lv_ishl hx hb dX1_housesThatTold_36 ?_
          refine lv_topi (fun x_14 ex_14 => ?_)
          refine lv_ior hx hb dX1_housesThatTold_37 ?_
          refine lv_topi (fun x_15 ex_15 => ?_)
          refine lv_istore_n hx hb dX1_housesThatTold_38 rfl hl kc_l_1_3 (kTo [(1, .int x_15), (2, .int (nI (i))), (0, .ref jC)]) (fun ls hl => ?_)
          refine lv_iinc (v := nI (i + 1)) hx hb dX1_housesThatTold_39 hl (k := 1) rfl (kInc _ 1) kc_l_2_3 (kTo [(2, .int (nI (i + 1))), (1, .int x_15), (0, .ref jC)]) (fun ls hl => ?_)
          refine lv_goto (tgt := 4) hx hb dX1_housesThatTold_42 kc_t_42_m38 ?_
          exact ih_k_1 (i + 1) x_15 (by omega) ls (lv_sub hl [0, 1, 2] rfl) (by omega)
  exact lp_k_1 (ks - 0 + 1) 0 0 (by omega) ls (lv_sub hl [0, 1, 2] rfl) (by omega)

theorem dX1_meanHeldIn_0 : decode cX1_meanHeldIn 0 = .ok (.iconst 0, 1) := kDs0 kf_3 (by decide +kernel)
theorem dX1_meanHeldIn_1 : decode cX1_meanHeldIn 1 = .ok (.istore_n 2, 1) := kDs0 kf_61 (by decide +kernel)
theorem dX1_meanHeldIn_2 : decode cX1_meanHeldIn 2 = .ok (.iconst 0, 1) := kDs0 kf_3 (by decide +kernel)
theorem dX1_meanHeldIn_3 : decode cX1_meanHeldIn 3 = .ok (.istore_n 3, 1) := kDs0 kf_62 (by decide +kernel)
theorem dX1_meanHeldIn_4 : decode cX1_meanHeldIn 4 = .ok (.iconst 0, 1) := kDs0 kf_3 (by decide +kernel)
theorem dX1_meanHeldIn_5 : decode cX1_meanHeldIn 5 = .ok (.istore 4, 2) := kDs1 kf_54 (by decide +kernel)
theorem dX1_meanHeldIn_7 : decode cX1_meanHeldIn 7 = .ok (.iload 4, 2) := kDs1 kf_21 (by decide +kernel)
theorem dX1_meanHeldIn_9 : decode cX1_meanHeldIn 9 = .ok (.aload_n 0, 1) := kDs0 kf_42 (by decide +kernel)
theorem dX1_meanHeldIn_10 : decode cX1_meanHeldIn 10 = .ok (.getfield 67, 3) := kDs2 kf_180 (by decide +kernel)
theorem dX1_meanHeldIn_13 : decode cX1_meanHeldIn 13 = .ok (.invokevirtual 84, 3) := kDs2 kf_182 (by decide +kernel)
theorem dX1_meanHeldIn_16 : decode cX1_meanHeldIn 16 = .ok (.if_icmp .ge 51, 3) := kDs4 kf_162 (by decide +kernel)
theorem dX1_meanHeldIn_67 : decode cX1_meanHeldIn 67 = .ok (.iload_n 2, 1) := kDs0 kf_28 (by decide +kernel)
theorem dX1_meanHeldIn_68 : decode cX1_meanHeldIn 68 = .ok (.ifCond .ne 7, 3) := kDs4 kf_154 (by decide +kernel)
theorem dX1_meanHeldIn_75 : decode cX1_meanHeldIn 75 = .ok (.iload_n 3, 1) := kDs0 kf_29 (by decide +kernel)
theorem dX1_meanHeldIn_76 : decode cX1_meanHeldIn 76 = .ok (.iload_n 2, 1) := kDs0 kf_28 (by decide +kernel)
theorem dX1_meanHeldIn_77 : decode cX1_meanHeldIn 77 = .ok (.idiv, 1) := kDs0 kf_108 (by decide +kernel)
theorem dX1_meanHeldIn_78 : decode cX1_meanHeldIn 78 = .ok (.ireturn, 1) := kDs0 kf_172 (by decide +kernel)
theorem dX1_meanHeldIn_71 : decode cX1_meanHeldIn 71 = .ok (.iconst 0, 1) := kDs0 kf_3 (by decide +kernel)
theorem dX1_meanHeldIn_72 : decode cX1_meanHeldIn 72 = .ok (.goto 6, 3) := kDs4 kf_167 (by decide +kernel)
theorem dX1_meanHeldIn_19 : decode cX1_meanHeldIn 19 = .ok (.aload_n 0, 1) := kDs0 kf_42 (by decide +kernel)
theorem dX1_meanHeldIn_20 : decode cX1_meanHeldIn 20 = .ok (.getfield 61, 3) := kDs2 kf_180 (by decide +kernel)
theorem dX1_meanHeldIn_23 : decode cX1_meanHeldIn 23 = .ok (.iload 4, 2) := kDs1 kf_21 (by decide +kernel)
theorem dX1_meanHeldIn_25 : decode cX1_meanHeldIn 25 = .ok (.invokestatic 116, 3) := kDs2 kf_184 (by decide +kernel)
theorem dX1_meanHeldIn_28 : decode cX1_meanHeldIn 28 = .ok (.ifCond .eq 33, 3) := kDs4 kf_153 (by decide +kernel)
theorem dX1_meanHeldIn_61 : decode cX1_meanHeldIn 61 = .ok (.iinc 4 1, 3) := kDs5 kf_132 (by decide +kernel)
theorem dX1_meanHeldIn_64 : decode cX1_meanHeldIn 64 = .ok (.goto (-57), 3) := kDs4 kf_167 (by decide +kernel)
theorem dX1_meanHeldIn_31 : decode cX1_meanHeldIn 31 = .ok (.iload_n 1, 1) := kDs0 kf_27 (by decide +kernel)
theorem dX1_meanHeldIn_32 : decode cX1_meanHeldIn 32 = .ok (.aload_n 0, 1) := kDs0 kf_42 (by decide +kernel)
theorem dX1_meanHeldIn_33 : decode cX1_meanHeldIn 33 = .ok (.getfield 67, 3) := kDs2 kf_180 (by decide +kernel)
theorem dX1_meanHeldIn_36 : decode cX1_meanHeldIn 36 = .ok (.getfield 91, 3) := kDs2 kf_180 (by decide +kernel)
theorem dX1_meanHeldIn_39 : decode cX1_meanHeldIn 39 = .ok (.iload 4, 2) := kDs1 kf_21 (by decide +kernel)
theorem dX1_meanHeldIn_41 : decode cX1_meanHeldIn 41 = .ok (.iaload, 1) := kDs0 kf_46 (by decide +kernel)
theorem dX1_meanHeldIn_42 : decode cX1_meanHeldIn 42 = .ok (.invokestatic 116, 3) := kDs2 kf_184 (by decide +kernel)
theorem dX1_meanHeldIn_45 : decode cX1_meanHeldIn 45 = .ok (.ifCond .eq 16, 3) := kDs4 kf_153 (by decide +kernel)
theorem dX1_meanHeldIn_48 : decode cX1_meanHeldIn 48 = .ok (.iinc 2 1, 3) := kDs5 kf_132 (by decide +kernel)
theorem dX1_meanHeldIn_51 : decode cX1_meanHeldIn 51 = .ok (.iload_n 3, 1) := kDs0 kf_29 (by decide +kernel)
theorem dX1_meanHeldIn_52 : decode cX1_meanHeldIn 52 = .ok (.aload_n 0, 1) := kDs0 kf_42 (by decide +kernel)
theorem dX1_meanHeldIn_53 : decode cX1_meanHeldIn 53 = .ok (.getfield 9, 3) := kDs2 kf_180 (by decide +kernel)
theorem dX1_meanHeldIn_56 : decode cX1_meanHeldIn 56 = .ok (.iload 4, 2) := kDs1 kf_21 (by decide +kernel)
theorem dX1_meanHeldIn_58 : decode cX1_meanHeldIn 58 = .ok (.iaload, 1) := kDs0 kf_46 (by decide +kernel)
theorem dX1_meanHeldIn_59 : decode cX1_meanHeldIn 59 = .ok (.iadd, 1) := kDs0 kf_96 (by decide +kernel)
theorem dX1_meanHeldIn_60 : decode cX1_meanHeldIn 60 = .ok (.istore_n 3, 1) := kDs0 kf_62 (by decide +kernel)
def w_s_mean1 : List Cond := .code yX1_meanHeldIn cX1_meanHeldIn 5 (some .int) :: ([.fieldLink RX1 67 "NotEnded$Course" "folk" "LNotEnded$Folk;", .initialized RX2, .selects RX2 yX2_size yX2_size, .instanceMethod yX2_size, .methodLink RX1 84 yX2_size, .fieldLink RX1 61 "NotEnded$Course" "moved" "I", .initialized RX9, .static yX9_isBit, .fieldLink RX1 9 "NotEnded$Course" "held" "[I"] ++ (wsX10 ++ (w_s_size2 ++ (w_s_isBit9 ++ (wsX20)))))
theorem gw_s_mean1 : (w_s_mean1).all goodWord = true := kGc rfl (kGa (by decide +kernel) (kGa gw_wsX10 (kGa gw_s_size2 (kGa gw_s_isBit9 gw_wsX20))))
theorem hd_X1_meanHeldIn : yX1_meanHeldIn.cls ≠ "java/lang/invoke/MethodHandle" ∧ yX1_meanHeldIn.cls ≠ "java/lang/invoke/VarHandle" ∧ (parseMethodDescriptor yX1_meanHeldIn.desc).map (fun d => d.parameters.length) = some 1 := by decide +kernel
set_option maxHeartbeats 4000000 in
set_option maxRecDepth 100000 in
theorem s_mean1 (l : Launch) (dC : Nat → ClassId) (dI : Nat → Nat → Nat) (jC : Nat) (d2 : Nat) (d3 : Nat) (d4 : Nat) (d5 : Nat) (d6 : Nat) (d7 : Nat) (d8 : Nat) (d9 : Nat) (d10 : Nat) (d11 : Nat) (d12 : Nat) (d13 : Nat) (w2 : ClassId) (w3 : ClassId) (w4 : ClassId) (w5 : ClassId) (w6 : ClassId) (w7 : ClassId) (w8 : ClassId) (w9 : ClassId) (w10 : ClassId) (w11 : ClassId) (w12 : ClassId) (w13 : ClassId) (e2 : Nat → Int32) (e3 : Nat → Int32) (e4 : Nat → Int32) (e5 : Nat → Int32) (e6 : Nat → Int32) (e7 : Nat → Int32) (e8 : Nat → Int32) (e9 : Nat → Int32) (e10 : Nat → Int32) (e11 : Nat → Int32) (e12 : Nat → Int32) (e13 : Nat → Int64) (dr : Int64) (pr : Int32) (mo : Int32) (ho : Int32) (hF : Nat) (f0 : Nat) (f1 : Nat) (f2 : Nat) (f3 : Nat) (f4 : Nat) (z0 : ClassId) (z1 : ClassId) (z2 : ClassId) (z3 : ClassId) (z4 : ClassId) (g0 : Nat → Int32) (g1 : Nat → Int32) (g2 : Nat → Int32) (g3 : Nat → Int32) (g4 : Nat → Int32) (sn : Int32) (ks : Nat) (kw : Nat) (hks : ks ≤ 10) (hkw : kw ≤ 4) (jK : Nat) (k0 : Nat) (k1 : Nat) (cK : ClassId) (cO : ClassId) (l0 : Nat → Int32) (l1 : Nat → Int32) (ru : Nat) (sA : Nat) (cl : Nat) (cS : ClassId) (cc : ClassId) (nS : Nat) (nC : Nat) (gS : Nat → Int32) (gC : Nat → Int32) (hnS : nS ≤ 200) (hnC : nC ≤ 200) (A : Nat → Prop) (p0 : Int32) : Met l yX1_meanHeldIn w_s_mean1 ({ frames := 3, cells := 0, slots := 0, locals := 180 }) (kR dC dI [.ref jC, .int p0] [(jC, .inr (1, [.ref hF, .ref jK, .ref d2, .ref d3, .ref d4, .ref d5, .ref d6, .ref d7, .ref d8, .ref d9, .ref d10, .ref d11, .ref d12, .ref d13, .ref ru, .long dr, .int pr, .int mo, .int ho])), (d2, .inl (w2, 10, .inl e2)), (d3, .inl (w3, 10, .inl e3)), (d4, .inl (w4, 10, .inl e4)), (d5, .inl (w5, 10, .inl e5)), (d6, .inl (w6, 10, .inl e6)), (d7, .inl (w7, 10, .inl e7)), (d8, .inl (w8, 10, .inl e8)), (d9, .inl (w9, 10, .inl e9)), (d10, .inl (w10, 4, .inl e10)), (d11, .inl (w11, 4, .inl e11)), (d12, .inl (w12, 4, .inl e12)), (d13, .inl (w13, 9, .inr (.inl e13))), (hF, .inr (2, [.ref f0, .ref f1, .ref f2, .ref f3, .ref f4, .int sn, .int (nI (ks)), .int (nI (kw))])), (f0, .inl (z0, 10, .inl g0)), (f1, .inl (z1, 10, .inl g1)), (f2, .inl (z2, 10, .inl g2)), (f3, .inl (z3, 10, .inl g3)), (f4, .inl (z4, 4, .inl g4)), (jK, .inr (5, [.ref k0, .ref k1])), (k0, .inl (cK, 8, .inl l0)), (k1, .inl (cO, 32, .inl l1))] [(w2, .int), (w3, .int), (w4, .int), (w5, .int), (w6, .int), (w7, .int), (w8, .int), (w9, .int), (w10, .int), (w11, .int), (w12, .int), (w13, .long), (z0, .int), (z1, .int), (z2, .int), (z3, .int), (z4, .int), (cK, .int), (cO, .int), (cS, .int), (cc, .int)] (kNF dC dI [(ru, .inr (6, [.ref sA, .ref cl])), (sA, .inl (cS, nS, .inl gS)), (cl, .inl (cc, nC, .inl gC))] A)) (vp_Si (fun r : Int32 => True)) 0 0 (fun _ => False) := by
  refine Met.ofW (cc := cX1_meanHeldIn) (maxL := 5) (ret := (some .int)) (by decide) rfl ?_
  intro p e s m args below meth c s₁ B hml hv
  obtain ⟨rfl, hP, hK, hX⟩ := hv
  have hx := B.exec
  have hb := B.bytes
  have hr := B.returns
  have hts := atoms_spec (ws := w_s_mean1) B.pre
  have hown : s.vm.findClass RX1 = some m.cls := findClass_of_methodNamed B.named
  have hlocks := B.notSynchronized
  have hS : va_S A s.heap s.heap [] := va_S.rf
  have hP : va_P (dC, dI) vwCl [(jC, .inr (1, [.ref hF, .ref jK, .ref d2, .ref d3, .ref d4, .ref d5, .ref d6, .ref d7, .ref d8, .ref d9, .ref d10, .ref d11, .ref d12, .ref d13, .ref ru, .long dr, .int pr, .int mo, .int ho])), (d2, .inl (w2, 10, .inl e2)), (d3, .inl (w3, 10, .inl e3)), (d4, .inl (w4, 10, .inl e4)), (d5, .inl (w5, 10, .inl e5)), (d6, .inl (w6, 10, .inl e6)), (d7, .inl (w7, 10, .inl e7)), (d8, .inl (w8, 10, .inl e8)), (d9, .inl (w9, 10, .inl e9)), (d10, .inl (w10, 4, .inl e10)), (d11, .inl (w11, 4, .inl e11)), (d12, .inl (w12, 4, .inl e12)), (d13, .inl (w13, 9, .inr (.inl e13))), (hF, .inr (2, [.ref f0, .ref f1, .ref f2, .ref f3, .ref f4, .int sn, .int (nI (ks)), .int (nI (kw))])), (f0, .inl (z0, 10, .inl g0)), (f1, .inl (z1, 10, .inl g1)), (f2, .inl (z2, 10, .inl g2)), (f3, .inl (z3, 10, .inl g3)), (f4, .inl (z4, 4, .inl g4)), (jK, .inr (5, [.ref k0, .ref k1])), (k0, .inl (cK, 8, .inl l0)), (k1, .inl (cO, 32, .inl l1))] s.heap := hP
  have hl := lv_entry ([.ref jC, .int p0]) (n := 5) (Nat.le_of_ble_eq_true rfl)
  rw [lg_entry_eq]
  generalize (lg_sl ([.ref jC, .int p0]) ++ List.replicate (5 - (lg_sl ([.ref jC, .int p0])).length) Slot.unset).toArray = ls at hl ⊢
  have hl : lv_has ls 5 [(0, .ref jC), (1, .int p0)] := hl
  refine kQ (fun Q hQ => ?_)
  refine lv_iconst (v := 0) hx hb dX1_meanHeldIn_0 kc_i_0 ?_
  refine lv_istore_n hx hb dX1_meanHeldIn_1 rfl hl kc_l_2_5 (kTo [(2, .int 0), (0, .ref jC), (1, .int p0)]) (fun ls hl => ?_)
  refine lv_iconst (v := 0) hx hb dX1_meanHeldIn_2 kc_i_0 ?_
  refine lv_istore_n hx hb dX1_meanHeldIn_3 rfl hl kc_l_3_5 (kTo [(3, .int 0), (2, .int 0), (0, .ref jC), (1, .int p0)]) (fun ls hl => ?_)
  refine lv_iconst (v := 0) hx hb dX1_meanHeldIn_4 kc_i_0 ?_
  refine lv_istore hx hb dX1_meanHeldIn_5 hl kc_l_4_5 (kTo [(4, .int 0), (3, .int 0), (2, .int 0), (0, .ref jC), (1, .int p0)]) (fun ls hl => ?_)
  have lp_k_1 : ∀ (n9 : Nat) (i : Nat) (x2 : Int32) (x3 : Int32) (ivk_1_0 : i ≤ ks) (ls : Array Slot) (_ : lv_has ls 5 [(4, .int (nI (i))), (3, .int x3), (2, .int x2), (0, .ref jC), (1, .int p0)]) (_ : ks - i < n9), W p l e (headSpec w_s_mean1 ({ frames := 3, cells := 0, slots := 0, locals := 180 })).room s m (#[.ref jC, .int p0] : Array Value) below meth c s.heap [] 0 0 Q (F0 m 7 ls []) := by
    intro n9
    induction n9 with
    | zero => intro i x2 x3 ivk_1_0 ls hl hm9; exact absurd hm9 (Nat.not_lt_zero _)
    | succ n9 ih_k_1 =>
      intro i x2 x3 ivk_1_0 ls hl hm9
      refine lv_iload hx hb dX1_meanHeldIn_7 (lv_at hl 0 rfl) ?_
      refine lv_aload_n hx hb dX1_meanHeldIn_9 rfl (lv_at hl 3 rfl) ?_
      refine va_get (D := (dC, dI)) (ci := 1) (v := .ref hF) (C := RX1) (T := TX1) (N := 19) hx hb hts (fun _ h => List.mem_cons_of_mem _ (List.mem_append_right _ (List.mem_append_left _ h))) hown hK hP 0 rfl rfl 0 kc_l_0_19 (hts (.fieldLink RX1 67 "NotEnded$Course" "folk" "LNotEnded$Folk;") (List.mem_cons_of_mem _ (List.mem_append_left _ (List.mem_of_getElem? (i := 0) rfl)))) (fun _ h9 => h9) rfl dX1_meanHeldIn_10 ?_
      have hPc := hP.sb (ws2 := [(hF, .inr (2, [.ref f0, .ref f1, .ref f2, .ref f3, .ref f4, .int sn, .int (nI (ks)), .int (nI (kw))])), (f0, .inl (z0, 10, .inl g0)), (f1, .inl (z1, 10, .inl g1)), (f2, .inl (z2, 10, .inl g2)), (f3, .inl (z3, 10, .inl g3)), (f4, .inl (z4, 4, .inl g4))]) [13, 14, 15, 16, 17, 18] rfl
      have hKc := hK.sb (tys2 := [(z0, .int), (z1, .int), (z2, .int), (z3, .int), (z4, .int)]) [12, 13, 14, 15, 16] rfl
      refine vp_callSi (va_runV (As := []) (rest := [.int (nI (i))]) ⟨hx, hb, hml, hown, hts⟩ (s_size2 l dC dI hF f0 f1 f2 f3 f4 z0 z1 z2 z3 z4 g0 g1 g2 g3 g4 sn ks kw hks hkw) (cwV 0 hts (kG (List.forall_mem_cons.mpr ⟨(List.mem_cons_of_mem _ (List.mem_append_left _ (List.mem_of_getElem? (i := 4) rfl))), (List.forall_mem_cons.mpr ⟨(List.mem_cons_of_mem _ (List.mem_append_left _ (List.mem_of_getElem? (i := 3) rfl))), (List.forall_mem_cons.mpr ⟨(List.mem_cons_of_mem _ (List.mem_append_left _ (List.mem_of_getElem? (i := 2) rfl))), (List.forall_mem_cons.mpr ⟨(List.mem_cons_of_mem _ (List.mem_append_left _ (List.mem_of_getElem? (i := 1) rfl))), (fun _ h => absurd h List.not_mem_nil)⟩)⟩)⟩)⟩) (kGV _ _ _ _) (fun _ h => List.mem_cons_of_mem _ (List.mem_append_right _ (List.mem_append_right _ (List.mem_append_left _ h)))) gw_s_size2) rfl rfl rfl ⟨rfl, hd_X2_size⟩ ⟨(Nat.le_of_ble_eq_true rfl), (Nat.le_of_ble_eq_true rfl)⟩) (kR_V kT_blind kT_give (va_recv hKc hPc (ci := 2) (q0 := 0) rfl rfl) hPc hKc) rfl rfl hl.1 rfl (lv_room (Nat.le_of_ble_eq_true rfl)) dX1_meanHeldIn_13 ⟨(Nat.le_of_ble_eq_true rfl), (Nat.le_of_ble_eq_true rfl)⟩).run (fun r_2 hw => ?_)
      obtain rfl : r_2 = nI (ks) := hw
      refine lv_icmp_ge (tgt := 67) hx hb dX1_meanHeldIn_16 kc_t_16_51 (fun c_3 => ?_) (fun c_3 => ?_)
      · have bd_5 : ks < 2147483648 := by omega
        have bd_6 : i < 2147483648 := by omega
        have hn_4 := kle (a := ks) (b := i) bd_5 bd_6 c_3
        refine lv_iload_n hx hb dX1_meanHeldIn_67 rfl (lv_at hl 2 rfl) ?_
        refine lv_if_ne (tgt := 75) hx hb dX1_meanHeldIn_68 kc_t_68_7 (fun c_7 => ?_) (fun c_7 => ?_)
        · refine lv_iload_n hx hb dX1_meanHeldIn_75 rfl (lv_at hl 1 rfl) ?_
          refine lv_iload_n hx hb dX1_meanHeldIn_76 rfl (lv_at hl 2 rfl) ?_
          refine lv_idiv hx hb dX1_meanHeldIn_77 (by assumption) ?_
          refine lv_topi (fun x_8 ex_8 => ?_)
          rw [hQ]
          exact W.iret (v := x_8) hx hb hr (fun t ht hW => ⟨x_8, rfl, trivial, ht⟩) (fun _ h => nomatch h) dX1_meanHeldIn_78
        · refine lv_iconst (v := 0) hx hb dX1_meanHeldIn_71 kc_i_0 ?_
          refine lv_goto (tgt := 78) hx hb dX1_meanHeldIn_72 kc_t_72_6 ?_
          rw [hQ]
          exact W.iret (v := 0) hx hb hr (fun t ht hW => ⟨0, rfl, trivial, ht⟩) (fun _ h => nomatch h) dX1_meanHeldIn_78
      · have bd_10 : ks < 2147483648 := by omega
        have bd_11 : i < 2147483648 := by omega
        have hn_9 := knle (a := ks) (b := i) bd_10 bd_11 c_3
        refine lv_aload_n hx hb dX1_meanHeldIn_19 rfl (lv_at hl 3 rfl) ?_
        refine va_get (D := (dC, dI)) (ci := 1) (v := .int mo) (C := RX1) (T := TX1) (N := 19) hx hb hts (fun _ h => List.mem_cons_of_mem _ (List.mem_append_right _ (List.mem_append_left _ h))) hown hK hP 0 rfl rfl 17 kc_l_17_19 (hts (.fieldLink RX1 61 "NotEnded$Course" "moved" "I") (List.mem_cons_of_mem _ (List.mem_append_left _ (List.mem_of_getElem? (i := 5) rfl)))) (fun _ h9 => h9) rfl dX1_meanHeldIn_20 ?_
        refine lv_iload hx hb dX1_meanHeldIn_23 (lv_at hl 0 rfl) ?_
        have hPc := hP.sb (ws2 := []) [] rfl
        have hKc := hK.sb (tys2 := []) [] rfl
        refine vp_callSi (va_runSN (As := [.int mo, .int (nI (i))]) (rest := []) ⟨hx, hb, hml, hown, hts⟩ (s_isBit9 l dC dI mo (nI (i))) (⟨va_cnB 2 hts (goodIn_sub (fun _ h => List.mem_cons_of_mem _ (List.mem_append_right _ (List.mem_append_right _ (List.mem_append_right _ (List.mem_append_left _ h))))) gw_s_isBit9) rfl rfl rfl (hX.2 _ (List.mem_of_getElem? (i := 12) rfl)) (hts (.initialized RX9) (List.mem_cons_of_mem _ (List.mem_append_left _ (List.mem_of_getElem? (i := 6) rfl)))) hd_X9_isBit ⟨(Nat.le_of_ble_eq_true rfl), (Nat.le_of_ble_eq_true rfl)⟩, (hts (.static yX9_isBit) (List.mem_cons_of_mem _ (List.mem_append_left _ (List.mem_of_getElem? (i := 7) rfl)))), trivial⟩) (kR_S kT_blind kT_give hPc hKc) rfl rfl hl.1 rfl (lv_room (Nat.le_of_ble_eq_true rfl)) dX1_meanHeldIn_25 ⟨(Nat.le_of_ble_eq_true rfl), (Nat.le_of_ble_eq_true rfl)⟩).run (fun r_12 hw => ?_)
        have hw_13 := hw
        refine lv_if_eq (tgt := 61) hx hb dX1_meanHeldIn_28 kc_t_28_33 (fun c_14 => ?_) (fun c_14 => ?_)
        · refine lv_iinc (v := nI (i + 1)) hx hb dX1_meanHeldIn_61 hl (k := 0) rfl (kInc _ 1) kc_l_4_5 (kTo [(4, .int (nI (i + 1))), (3, .int x3), (2, .int x2), (0, .ref jC), (1, .int p0)]) (fun ls hl => ?_)
          refine lv_goto (tgt := 7) hx hb dX1_meanHeldIn_64 kc_t_64_m57 ?_
          exact ih_k_1 (i + 1) x2 x3 (by omega) ls (lv_sub hl [0, 1, 2, 3, 4] rfl) (by omega)
        · refine lv_iload_n hx hb dX1_meanHeldIn_31 rfl (lv_at hl 4 rfl) ?_
          refine lv_aload_n hx hb dX1_meanHeldIn_32 rfl (lv_at hl 3 rfl) ?_
          refine va_get (D := (dC, dI)) (ci := 1) (v := .ref hF) (C := RX1) (T := TX1) (N := 19) hx hb hts (fun _ h => List.mem_cons_of_mem _ (List.mem_append_right _ (List.mem_append_left _ h))) hown hK hP 0 rfl rfl 0 kc_l_0_19 (hts (.fieldLink RX1 67 "NotEnded$Course" "folk" "LNotEnded$Folk;") (List.mem_cons_of_mem _ (List.mem_append_left _ (List.mem_of_getElem? (i := 0) rfl)))) (fun _ h9 => h9) rfl dX1_meanHeldIn_33 ?_
          refine va_getN (D := (dC, dI)) (ci := 2) (v := .ref f2) (C := RX2) (T := TX2) (N := 8) hx hb hts (fun _ h => List.mem_cons_of_mem _ (List.mem_append_right _ (List.mem_append_right _ (List.mem_append_right _ (List.mem_append_right _ h))))) hown hK hP 13 rfl rfl 2 kc_l_2_8 (va_Nw.use rfl (hX.2 _ (List.mem_of_getElem? (i := 5) rfl))) (fun _ h9 => h9) rfl dX1_meanHeldIn_36 ?_
          refine lv_iload hx hb dX1_meanHeldIn_39 (lv_at hl 0 rfl) ?_
          have bd_15 : i < 10 := by omega
          refine va_iald hx hb hK hP 16 14 rfl rfl (vp_in_nI (n := i) (N := 10) bd_15 kc_31_10) dX1_meanHeldIn_41 ?_
          refine lv_topi (fun x_16 ex_16 => ?_)
          have hPc := hP.sb (ws2 := []) [] rfl
          have hKc := hK.sb (tys2 := []) [] rfl
          refine vp_callSi (va_runSN (As := [.int p0, .int x_16]) (rest := []) ⟨hx, hb, hml, hown, hts⟩ (s_isBit9 l dC dI p0 x_16) (⟨va_cnB 2 hts (goodIn_sub (fun _ h => List.mem_cons_of_mem _ (List.mem_append_right _ (List.mem_append_right _ (List.mem_append_right _ (List.mem_append_left _ h))))) gw_s_isBit9) rfl rfl rfl (hX.2 _ (List.mem_of_getElem? (i := 12) rfl)) (hts (.initialized RX9) (List.mem_cons_of_mem _ (List.mem_append_left _ (List.mem_of_getElem? (i := 6) rfl)))) hd_X9_isBit ⟨(Nat.le_of_ble_eq_true rfl), (Nat.le_of_ble_eq_true rfl)⟩, (hts (.static yX9_isBit) (List.mem_cons_of_mem _ (List.mem_append_left _ (List.mem_of_getElem? (i := 7) rfl)))), trivial⟩) (kR_S kT_blind kT_give hPc hKc) rfl rfl hl.1 rfl (lv_room (Nat.le_of_ble_eq_true rfl)) dX1_meanHeldIn_42 ⟨(Nat.le_of_ble_eq_true rfl), (Nat.le_of_ble_eq_true rfl)⟩).run (fun r_17 hw => ?_)
          have hw_18 := hw
          refine lv_if_eq (tgt := 61) hx hb dX1_meanHeldIn_45 kc_t_45_16 (fun c_19 => ?_) (fun c_19 => ?_)
          · refine lv_iinc (v := nI (i + 1)) hx hb dX1_meanHeldIn_61 hl (k := 0) rfl (kInc _ 1) kc_l_4_5 (kTo [(4, .int (nI (i + 1))), (3, .int x3), (2, .int x2), (0, .ref jC), (1, .int p0)]) (fun ls hl => ?_)
            refine lv_goto (tgt := 7) hx hb dX1_meanHeldIn_64 kc_t_64_m57 ?_
            exact ih_k_1 (i + 1) x2 x3 (by omega) ls (lv_sub hl [0, 1, 2, 3, 4] rfl) (by omega)
          · obtain ⟨x_20, ex_20⟩ : ∃ y : Int32, y = x2 + 1 := ⟨_, rfl⟩
            refine lv_iinc (v := x_20) hx hb dX1_meanHeldIn_48 hl (k := 2) rfl (by rw [ex_20]; rfl) kc_l_2_5 (kTo [(2, .int x_20), (4, .int (nI (i))), (3, .int x3), (0, .ref jC), (1, .int p0)]) (fun ls hl => ?_)
            refine lv_iload_n hx hb dX1_meanHeldIn_51 rfl (lv_at hl 2 rfl) ?_
            refine lv_aload_n hx hb dX1_meanHeldIn_52 rfl (lv_at hl 3 rfl) ?_
            refine va_get (D := (dC, dI)) (ci := 1) (v := .ref d2) (C := RX1) (T := TX1) (N := 19) hx hb hts (fun _ h => List.mem_cons_of_mem _ (List.mem_append_right _ (List.mem_append_left _ h))) hown hK hP 0 rfl rfl 2 kc_l_2_19 (hts (.fieldLink RX1 9 "NotEnded$Course" "held" "[I") (List.mem_cons_of_mem _ (List.mem_append_left _ (List.mem_of_getElem? (i := 8) rfl)))) (fun _ h9 => h9) rfl dX1_meanHeldIn_53 ?_
            refine lv_iload hx hb dX1_meanHeldIn_56 (lv_at hl 1 rfl) ?_
            refine va_iald hx hb hK hP 1 0 rfl rfl (vp_in_nI (n := i) (N := 10) bd_15 kc_31_10) dX1_meanHeldIn_58 ?_
            refine lv_topi (fun x_21 ex_21 => ?_)
            refine lv_iadd hx hb dX1_meanHeldIn_59 ?_
            refine lv_topi (fun x_22 ex_22 => ?_)
            refine lv_istore_n hx hb dX1_meanHeldIn_60 rfl hl kc_l_3_5 (kTo [(3, .int x_22), (2, .int x_20), (4, .int (nI (i))), (0, .ref jC), (1, .int p0)]) (fun ls hl => ?_)
            refine lv_iinc (v := nI (i + 1)) hx hb dX1_meanHeldIn_61 hl (k := 2) rfl (kInc _ 1) kc_l_4_5 (kTo [(4, .int (nI (i + 1))), (3, .int x_22), (2, .int x_20), (0, .ref jC), (1, .int p0)]) (fun ls hl => ?_)
            refine lv_goto (tgt := 7) hx hb dX1_meanHeldIn_64 kc_t_64_m57 ?_
            exact ih_k_1 (i + 1) x_20 x_22 (by omega) ls (lv_sub hl [0, 1, 2, 3, 4] rfl) (by omega)
  exact lp_k_1 (ks - 0 + 1) 0 0 0 (by omega) ls (lv_sub hl [0, 1, 2, 3, 4] rfl) (by omega)

theorem dX1_mayGo_0 : decode cX1_mayGo 0 = .ok (.aload_n 0, 1) := kDs0 kf_42 (by decide +kernel)
theorem dX1_mayGo_1 : decode cX1_mayGo 1 = .ok (.getfield 61, 3) := kDs2 kf_180 (by decide +kernel)
theorem dX1_mayGo_4 : decode cX1_mayGo 4 = .ok (.iload_n 1, 1) := kDs0 kf_27 (by decide +kernel)
theorem dX1_mayGo_5 : decode cX1_mayGo 5 = .ok (.invokestatic 116, 3) := kDs2 kf_184 (by decide +kernel)
theorem dX1_mayGo_8 : decode cX1_mayGo 8 = .ok (.ifCond .eq 17, 3) := kDs4 kf_153 (by decide +kernel)
theorem dX1_mayGo_25 : decode cX1_mayGo 25 = .ok (.iconst 0, 1) := kDs0 kf_3 (by decide +kernel)
theorem dX1_mayGo_26 : decode cX1_mayGo 26 = .ok (.ireturn, 1) := kDs0 kf_172 (by decide +kernel)
theorem dX1_mayGo_11 : decode cX1_mayGo 11 = .ok (.aload_n 0, 1) := kDs0 kf_42 (by decide +kernel)
theorem dX1_mayGo_12 : decode cX1_mayGo 12 = .ok (.getfield 18, 3) := kDs2 kf_180 (by decide +kernel)
theorem dX1_mayGo_15 : decode cX1_mayGo 15 = .ok (.iload_n 1, 1) := kDs0 kf_27 (by decide +kernel)
theorem dX1_mayGo_16 : decode cX1_mayGo 16 = .ok (.iaload, 1) := kDs0 kf_46 (by decide +kernel)
theorem dX1_mayGo_17 : decode cX1_mayGo 17 = .ok (.iconst (-1), 1) := kDs0 kf_2 (by decide +kernel)
theorem dX1_mayGo_18 : decode cX1_mayGo 18 = .ok (.if_icmp .eq 7, 3) := kDs4 kf_159 (by decide +kernel)
theorem dX1_mayGo_21 : decode cX1_mayGo 21 = .ok (.iconst 1, 1) := kDs0 kf_4 (by decide +kernel)
theorem dX1_mayGo_22 : decode cX1_mayGo 22 = .ok (.goto 4, 3) := kDs4 kf_167 (by decide +kernel)
def w_s_mayGo1 : List Cond := .code yX1_mayGo cX1_mayGo 2 (some .boolean) :: ([.fieldLink RX1 61 "NotEnded$Course" "moved" "I", .initialized RX9, .static yX9_isBit, .fieldLink RX1 18 "NotEnded$Course" "places" "[I"] ++ (wsX10 ++ (w_s_isBit9)))
theorem gw_s_mayGo1 : (w_s_mayGo1).all goodWord = true := kGc rfl (kGa (by decide +kernel) (kGa gw_wsX10 gw_s_isBit9))
theorem hd_X1_mayGo : yX1_mayGo.cls ≠ "java/lang/invoke/MethodHandle" ∧ yX1_mayGo.cls ≠ "java/lang/invoke/VarHandle" ∧ (parseMethodDescriptor yX1_mayGo.desc).map (fun d => d.parameters.length) = some 1 := by decide +kernel
set_option maxHeartbeats 4000000 in
set_option maxRecDepth 100000 in
theorem s_mayGo1 (l : Launch) (dC : Nat → ClassId) (dI : Nat → Nat → Nat) (jC : Nat) (d2 : Nat) (d3 : Nat) (d4 : Nat) (d5 : Nat) (d6 : Nat) (d7 : Nat) (d8 : Nat) (d9 : Nat) (d10 : Nat) (d11 : Nat) (d12 : Nat) (d13 : Nat) (w2 : ClassId) (w3 : ClassId) (w4 : ClassId) (w5 : ClassId) (w6 : ClassId) (w7 : ClassId) (w8 : ClassId) (w9 : ClassId) (w10 : ClassId) (w11 : ClassId) (w12 : ClassId) (w13 : ClassId) (e2 : Nat → Int32) (e3 : Nat → Int32) (e4 : Nat → Int32) (e5 : Nat → Int32) (e6 : Nat → Int32) (e7 : Nat → Int32) (e8 : Nat → Int32) (e9 : Nat → Int32) (e10 : Nat → Int32) (e11 : Nat → Int32) (e12 : Nat → Int32) (e13 : Nat → Int64) (dr : Int64) (pr : Int32) (mo : Int32) (ho : Int32) (hF : Nat) (f0 : Nat) (f1 : Nat) (f2 : Nat) (f3 : Nat) (f4 : Nat) (z0 : ClassId) (z1 : ClassId) (z2 : ClassId) (z3 : ClassId) (z4 : ClassId) (g0 : Nat → Int32) (g1 : Nat → Int32) (g2 : Nat → Int32) (g3 : Nat → Int32) (g4 : Nat → Int32) (sn : Int32) (ks : Nat) (kw : Nat) (hks : ks ≤ 10) (hkw : kw ≤ 4) (jK : Nat) (k0 : Nat) (k1 : Nat) (cK : ClassId) (cO : ClassId) (l0 : Nat → Int32) (l1 : Nat → Int32) (ru : Nat) (sA : Nat) (cl : Nat) (cS : ClassId) (cc : ClassId) (nS : Nat) (nC : Nat) (gS : Nat → Int32) (gC : Nat → Int32) (hnS : nS ≤ 200) (hnC : nC ≤ 200) (A : Nat → Prop) (pj : Nat) (hpj : pj < ks) : Met l yX1_mayGo w_s_mayGo1 ({ frames := 3, cells := 0, slots := 0, locals := 180 }) (kR dC dI [.ref jC, .int (nI (pj))] [(jC, .inr (1, [.ref hF, .ref jK, .ref d2, .ref d3, .ref d4, .ref d5, .ref d6, .ref d7, .ref d8, .ref d9, .ref d10, .ref d11, .ref d12, .ref d13, .ref ru, .long dr, .int pr, .int mo, .int ho])), (d2, .inl (w2, 10, .inl e2)), (d3, .inl (w3, 10, .inl e3)), (d4, .inl (w4, 10, .inl e4)), (d5, .inl (w5, 10, .inl e5)), (d6, .inl (w6, 10, .inl e6)), (d7, .inl (w7, 10, .inl e7)), (d8, .inl (w8, 10, .inl e8)), (d9, .inl (w9, 10, .inl e9)), (d10, .inl (w10, 4, .inl e10)), (d11, .inl (w11, 4, .inl e11)), (d12, .inl (w12, 4, .inl e12)), (d13, .inl (w13, 9, .inr (.inl e13))), (hF, .inr (2, [.ref f0, .ref f1, .ref f2, .ref f3, .ref f4, .int sn, .int (nI (ks)), .int (nI (kw))])), (f0, .inl (z0, 10, .inl g0)), (f1, .inl (z1, 10, .inl g1)), (f2, .inl (z2, 10, .inl g2)), (f3, .inl (z3, 10, .inl g3)), (f4, .inl (z4, 4, .inl g4)), (jK, .inr (5, [.ref k0, .ref k1])), (k0, .inl (cK, 8, .inl l0)), (k1, .inl (cO, 32, .inl l1))] [(w2, .int), (w3, .int), (w4, .int), (w5, .int), (w6, .int), (w7, .int), (w8, .int), (w9, .int), (w10, .int), (w11, .int), (w12, .int), (w13, .long), (z0, .int), (z1, .int), (z2, .int), (z3, .int), (z4, .int), (cK, .int), (cO, .int), (cS, .int), (cc, .int)] (kNF dC dI [(ru, .inr (6, [.ref sA, .ref cl])), (sA, .inl (cS, nS, .inl gS)), (cl, .inl (cc, nC, .inl gC))] A)) (vp_Si (fun r : Int32 => (r = 0 ∨ r = 1))) 0 0 (fun _ => False) := by
  refine Met.ofW (cc := cX1_mayGo) (maxL := 2) (ret := (some .boolean)) (by decide) rfl ?_
  intro p e s m args below meth c s₁ B hml hv
  obtain ⟨rfl, hP, hK, hX⟩ := hv
  have hx := B.exec
  have hb := B.bytes
  have hr := B.returns
  have hts := atoms_spec (ws := w_s_mayGo1) B.pre
  have hown : s.vm.findClass RX1 = some m.cls := findClass_of_methodNamed B.named
  have hlocks := B.notSynchronized
  have hS : va_S A s.heap s.heap [] := va_S.rf
  have hP : va_P (dC, dI) vwCl [(jC, .inr (1, [.ref hF, .ref jK, .ref d2, .ref d3, .ref d4, .ref d5, .ref d6, .ref d7, .ref d8, .ref d9, .ref d10, .ref d11, .ref d12, .ref d13, .ref ru, .long dr, .int pr, .int mo, .int ho])), (d2, .inl (w2, 10, .inl e2)), (d3, .inl (w3, 10, .inl e3)), (d4, .inl (w4, 10, .inl e4)), (d5, .inl (w5, 10, .inl e5)), (d6, .inl (w6, 10, .inl e6)), (d7, .inl (w7, 10, .inl e7)), (d8, .inl (w8, 10, .inl e8)), (d9, .inl (w9, 10, .inl e9)), (d10, .inl (w10, 4, .inl e10)), (d11, .inl (w11, 4, .inl e11)), (d12, .inl (w12, 4, .inl e12)), (d13, .inl (w13, 9, .inr (.inl e13))), (hF, .inr (2, [.ref f0, .ref f1, .ref f2, .ref f3, .ref f4, .int sn, .int (nI (ks)), .int (nI (kw))])), (f0, .inl (z0, 10, .inl g0)), (f1, .inl (z1, 10, .inl g1)), (f2, .inl (z2, 10, .inl g2)), (f3, .inl (z3, 10, .inl g3)), (f4, .inl (z4, 4, .inl g4)), (jK, .inr (5, [.ref k0, .ref k1])), (k0, .inl (cK, 8, .inl l0)), (k1, .inl (cO, 32, .inl l1))] s.heap := hP
  have hl := lv_entry ([.ref jC, .int (nI (pj))]) (n := 2) (Nat.le_of_ble_eq_true rfl)
  rw [lg_entry_eq]
  generalize (lg_sl ([.ref jC, .int (nI (pj))]) ++ List.replicate (2 - (lg_sl ([.ref jC, .int (nI (pj))])).length) Slot.unset).toArray = ls at hl ⊢
  have hl : lv_has ls 2 [(0, .ref jC), (1, .int (nI (pj)))] := hl
  refine kQ (fun Q hQ => ?_)
  refine lv_aload_n hx hb dX1_mayGo_0 rfl (lv_at hl 0 rfl) ?_
  refine va_get (D := (dC, dI)) (ci := 1) (v := .int mo) (C := RX1) (T := TX1) (N := 19) hx hb hts (fun _ h => List.mem_cons_of_mem _ (List.mem_append_right _ (List.mem_append_left _ h))) hown hK hP 0 rfl rfl 17 kc_l_17_19 (hts (.fieldLink RX1 61 "NotEnded$Course" "moved" "I") (List.mem_cons_of_mem _ (List.mem_append_left _ (List.mem_of_getElem? (i := 0) rfl)))) (fun _ h9 => h9) rfl dX1_mayGo_1 ?_
  refine lv_iload_n hx hb dX1_mayGo_4 rfl (lv_at hl 1 rfl) ?_
  have hPc := hP.sb (ws2 := []) [] rfl
  have hKc := hK.sb (tys2 := []) [] rfl
  refine vp_callSi (va_runSN (As := [.int mo, .int (nI (pj))]) (rest := []) ⟨hx, hb, hml, hown, hts⟩ (s_isBit9 l dC dI mo (nI (pj))) (⟨va_cnB 2 hts (goodIn_sub (fun _ h => List.mem_cons_of_mem _ (List.mem_append_right _ (List.mem_append_right _ h))) gw_s_isBit9) rfl rfl rfl (hX.2 _ (List.mem_of_getElem? (i := 12) rfl)) (hts (.initialized RX9) (List.mem_cons_of_mem _ (List.mem_append_left _ (List.mem_of_getElem? (i := 1) rfl)))) hd_X9_isBit ⟨(Nat.le_of_ble_eq_true rfl), (Nat.le_of_ble_eq_true rfl)⟩, (hts (.static yX9_isBit) (List.mem_cons_of_mem _ (List.mem_append_left _ (List.mem_of_getElem? (i := 2) rfl)))), trivial⟩) (kR_S kT_blind kT_give hPc hKc) rfl rfl hl.1 rfl (lv_room (Nat.le_of_ble_eq_true rfl)) dX1_mayGo_5 ⟨(Nat.le_of_ble_eq_true rfl), (Nat.le_of_ble_eq_true rfl)⟩).run (fun r_1 hw => ?_)
  have hw_2 := hw
  refine lv_if_eq (tgt := 25) hx hb dX1_mayGo_8 kc_t_8_17 (fun c_3 => ?_) (fun c_3 => ?_)
  · refine lv_iconst (v := 0) hx hb dX1_mayGo_25 kc_i_0 ?_
    rw [hQ]
    exact W.zret (v := 0) hx hb hr rfl (fun t ht hW => ⟨0, rfl, (Or.inl rfl), ht⟩) (fun _ h => nomatch h) dX1_mayGo_26
  · refine lv_aload_n hx hb dX1_mayGo_11 rfl (lv_at hl 0 rfl) ?_
    refine va_get (D := (dC, dI)) (ci := 1) (v := .ref d4) (C := RX1) (T := TX1) (N := 19) hx hb hts (fun _ h => List.mem_cons_of_mem _ (List.mem_append_right _ (List.mem_append_left _ h))) hown hK hP 0 rfl rfl 4 kc_l_4_19 (hts (.fieldLink RX1 18 "NotEnded$Course" "places" "[I") (List.mem_cons_of_mem _ (List.mem_append_left _ (List.mem_of_getElem? (i := 3) rfl)))) (fun _ h9 => h9) rfl dX1_mayGo_12 ?_
    refine lv_iload_n hx hb dX1_mayGo_15 rfl (lv_at hl 1 rfl) ?_
    have bd_4 : pj < 10 := by omega
    refine va_iald hx hb hK hP 3 2 rfl rfl (vp_in_nI (n := pj) (N := 10) bd_4 kc_31_10) dX1_mayGo_16 ?_
    refine lv_topi (fun x_5 ex_5 => ?_)
    refine lv_iconst (v := (-1)) hx hb dX1_mayGo_17 kc_i_m1 ?_
    refine lv_icmp_eq (tgt := 25) hx hb dX1_mayGo_18 kc_t_18_7 (fun c_6 => ?_) (fun c_6 => ?_)
    · refine lv_iconst (v := 0) hx hb dX1_mayGo_25 kc_i_0 ?_
      rw [hQ]
      exact W.zret (v := 0) hx hb hr rfl (fun t ht hW => ⟨0, rfl, (Or.inl rfl), ht⟩) (fun _ h => nomatch h) dX1_mayGo_26
    · refine lv_iconst (v := 1) hx hb dX1_mayGo_21 kc_i_1 ?_
      refine lv_goto (tgt := 26) hx hb dX1_mayGo_22 kc_t_22_4 ?_
      rw [hQ]
      exact W.zret (v := 1) hx hb hr rfl (fun t ht hW => ⟨1, rfl, (Or.inr rfl), ht⟩) (fun _ h => nomatch h) dX1_mayGo_26
