/-- the letters of an outcome -/
def kOl (o : Int32) : Nat → Int32 := fun k => (o >>> (nI k &&& 31)) &&& 1
theorem kOlU {f f1 : Nat → Int32} {i : Nat} {p x y : Int32} (e : f1 = upd f i y) (ex : x = p >>> (nI i &&& 31)) (ey : y = x &&& 1) (H : ∀ q : Nat, q < i → f q = kOl p q) : ∀ q : Nat, q < i + 1 → f1 q = kOl p q := fun q hq => by
  rw [e]
  by_cases z : q = i
  · rw [z, pk_us, ey, ex]; rfl
  · rw [pk_un z]; exact H q (by omega)
/-- whether a turning lets an outcome -/
def kLet (o : Int32) (t : List kTr) : Int32 := if kWoT (kOl o) 0 t = 0 then 0 else 1
theorem kLet_01 (o : Int32) (t : List kTr) : kLet o t = 0 ∨ kLet o t = 1 := by unfold kLet; split; exact Or.inl rfl; exact Or.inr rfl
/-- the outcomes for which nothing stands, as bits -/
def kBrN (f : Nat → Int32) : Nat → Nat
  | 0 => 0
  | n + 1 => if f n = 0 then kBrN f n ||| 2 ^ n else kBrN f n
theorem kBrN_lt (f : Nat → Int32) : ∀ n : Nat, kBrN f n < 2 ^ n := by
  intro n
  induction n with
  | zero => exact Nat.one_pos
  | succ n ih =>
    have h1 : 2 ^ n < 2 ^ (n + 1) := by rw [Nat.pow_succ]; have := Nat.one_le_two_pow (n := n); omega
    unfold kBrN
    split
    · exact Nat.or_lt_two_pow (by omega) h1
    · omega
theorem kShlF5 : ∀ k : Fin 32, (1 : Int32) <<< (nI k.val &&& 31) = nI (2 ^ k.val) := by decide +kernel
theorem nI_or5 (a b : Nat) : nI a ||| nI b = nI (a ||| b) := Int32.toBitVec_inj.mp (by show BitVec.ofNat 32 a ||| BitVec.ofNat 32 b = BitVec.ofNat 32 (a ||| b); exact BitVec.ofNat_or.symm)
theorem nI_and5 (a b : Nat) : nI a &&& nI b = nI (a &&& b) := Int32.toBitVec_inj.mp (by show BitVec.ofNat 32 a &&& BitVec.ofNat 32 b = BitVec.ofNat 32 (a &&& b); exact BitVec.ofNat_and.symm)
theorem nI_inj32 {a b : Nat} (ha : a < 2 ^ 32) (hb : b < 2 ^ 32) (h : nI a = nI b) : a = b := by
  have h1 : (BitVec.ofNat 32 a).toNat = (BitVec.ofNat 32 b).toNat := congrArg BitVec.toNat (congrArg Int32.toBitVec h)
  rw [BitVec.toNat_ofNat, BitVec.toNat_ofNat, Nat.mod_eq_of_lt ha, Nat.mod_eq_of_lt hb] at h1
  exact h1
theorem kBrU {f : Nat → Int32} {i : Nat} {x y z : Int32} (hi : i < 32) (hx : x = nI (kBrN f i)) (hf : f i = 0) (ey : y = (1 : Int32) <<< (nI i &&& 31)) (ez : z = x ||| y) : z = nI (kBrN f (i + 1)) := by
  have h1 : kBrN f (i + 1) = kBrN f i ||| 2 ^ i := if_pos hf
  rw [h1, ez, hx, ey, kShlF5 ⟨i, hi⟩, nI_or5]
theorem kBrS {f : Nat → Int32} {i : Nat} (hf : ¬ f i = 0) : kBrN f (i + 1) = kBrN f i := if_neg hf
def kBar (t : List kTr) : Nat := kBrN (fun k => kLet (nI k) t) 32
theorem kBar_lt (t : List kTr) : kBar t < 2 ^ 32 := kBrN_lt _ 32

def w_s_isLet9x : List Cond := .code yX9_isLet cX9_isLet 4 (some .boolean) :: ([.fieldLink RX9 28 "NotEnded" "reckoner" "LNotEnded$Reckoner;", .initialized RX5, .selects RX5 yX5_worthOf yX5_worthOf, .instanceMethod yX5_worthOf, .methodLink RX9 267 yX5_worthOf, .selects RX5 yX5_setLetter yX5_setLetter, .instanceMethod yX5_setLetter, .methodLink RX9 264 yX5_setLetter] ++ (wsX90 ++ (w_s_worthOf5x ++ (w_s_setLetter5x))))
theorem gw_s_isLet9x : (w_s_isLet9x).all goodWord = true := kGc rfl (kGa (by decide +kernel) (kGa gw_wsX90 (kGa gw_s_worthOf5x gw_s_setLetter5x)))
set_option maxHeartbeats 4000000 in
set_option maxRecDepth 100000 in
theorem s_isLet9x (l : Launch) (dC : Nat → ClassId) (dI : Nat → Nat → Nat) (jX : Nat) (jT : Nat) (jR : Nat) (jL : Nat) (jU : Nat) (hN : Nat) (jA : Nat) (sd : Nat) (hF : Nat) (jC : Nat) (jK : Nat) (k0 : Nat) (k1 : Nat) (cK : ClassId) (cO : ClassId) (l0 : Nat → Int32) (l1 : Nat → Int32) (ru : Nat) (sA : Nat) (cl : Nat) (cS : ClassId) (cc : ClassId) (nS : Nat) (nC : Nat) (gS : Nat → Int32) (gC : Nat → Int32) (hnS : nS ≤ 200) (hnC : nC ≤ 200) (t9 : List kTr) (hru : kRu t9 5 nS nC gS gC) (p1 : Int32) (sz : Nat) : Met l yX9_isLet w_s_isLet9x ({ frames := 4, cells := 0, slots := 0, locals := 240 }) (kW dC dI [.ref jX, .ref ru, .int p1] [(jX, .inr (9, [.ref jT, .ref jR, .ref jK, .ref jL, .ref jU, .ref hF, .ref jC, .ref hN, .ref jA, .ref sd])), (jK, .inr (5, [.ref k0, .ref k1])), (k0, .inl (cK, 8, .inl l0)), (k1, .inl (cO, 32, .inl l1))] [(cK, .int), (cO, .int), (cS, .int), (cc, .int)] (kNF dC dI [(ru, .inr (6, [.ref sA, .ref cl])), (sA, .inl (cS, nS, .inl gS)), (cl, .inl (cc, nC, .inl gC))] (va_A [(jX, .inr (9, [.ref jT, .ref jR, .ref jK, .ref jL, .ref jU, .ref hF, .ref jC, .ref hN, .ref jA, .ref sd])), (jK, .inr (5, [.ref k0, .ref k1])), (k0, .inl (cK, 8, .inl l0)), (k1, .inl (cO, 32, .inl l1))] sz)) sz) (va_Qi (fun (r : Int32) (u : (Nat → Int32) × (Nat → Int32)) => match u with | (L0, L1) => r = kLet p1 t9) (fun (u : (Nat → Int32) × (Nat → Int32)) => match u with | (L0, L1) => fun t : State => kB dC dI [(jX, .inr (9, [.ref jT, .ref jR, .ref jK, .ref jL, .ref jU, .ref hF, .ref jC, .ref hN, .ref jA, .ref sd])), (jK, .inr (5, [.ref k0, .ref k1])), (k0, .inl (cK, 8, .inl L0)), (k1, .inl (cO, 32, .inl L1))] [(cK, .int), (cO, .int), (cS, .int), (cc, .int)] (va_A [(jX, .inr (9, [.ref jT, .ref jR, .ref jK, .ref jL, .ref jU, .ref hF, .ref jC, .ref hN, .ref jA, .ref sd])), (jK, .inr (5, [.ref k0, .ref k1])), (k0, .inl (cK, 8, .inl l0)), (k1, .inl (cO, 32, .inl l1))] sz) t) (va_A [(jX, .inr (9, [.ref jT, .ref jR, .ref jK, .ref jL, .ref jU, .ref hF, .ref jC, .ref hN, .ref jA, .ref sd])), (jK, .inr (5, [.ref k0, .ref k1])), (k0, .inl (cK, 8, .inl l0)), (k1, .inl (cO, 32, .inl l1))] sz)) 0 0 (va_A [(jX, .inr (9, [.ref jT, .ref jR, .ref jK, .ref jL, .ref jU, .ref hF, .ref jC, .ref hN, .ref jA, .ref sd])), (jK, .inr (5, [.ref k0, .ref k1])), (k0, .inl (cK, 8, .inl l0)), (k1, .inl (cO, 32, .inl l1))] sz) := by
  refine Met.ofW (cc := cX9_isLet) (maxL := 4) (ret := (some .boolean)) (by decide) rfl ?_
  intro p e s m args below meth c s₁ B hml hv
  obtain ⟨rfl, hsz, hP, hK, hD0, hX⟩ := hv
  have hx := B.exec
  have hb := B.bytes
  have hr := B.returns
  have hts := atoms_spec (ws := w_s_isLet9x) B.pre
  have hown : s.vm.findClass RX9 = some m.cls := findClass_of_methodNamed B.named
  have hlocks := B.notSynchronized
  subst hsz
  have hD := hD0.self (sz := s.heap.size)
  generalize hAe : va_A [(jX, .inr (9, [.ref jT, .ref jR, .ref jK, .ref jL, .ref jU, .ref hF, .ref jC, .ref hN, .ref jA, .ref sd])), (jK, .inr (5, [.ref k0, .ref k1])), (k0, .inl (cK, 8, .inl l0)), (k1, .inl (cO, 32, .inl l1))] s.heap.size = A at hD hX ⊢
  have hA : ∀ q : Nat, s.heap.size ≤ q → A q := fun q h => by rw [← hAe]; exact Or.inr h
  have hS : va_S A s.heap s.heap [] := va_S.rf
  have hP : va_P (dC, dI) vwCl [(jX, .inr (9, [.ref jT, .ref jR, .ref jK, .ref jL, .ref jU, .ref hF, .ref jC, .ref hN, .ref jA, .ref sd])), (jK, .inr (5, [.ref k0, .ref k1])), (k0, .inl (cK, 8, .inl l0)), (k1, .inl (cO, 32, .inl l1))] s.heap := hP
  have hl := lv_entry ([.ref jX, .ref ru, .int p1]) (n := 4) (Nat.le_of_ble_eq_true rfl)
  rw [lg_entry_eq]
  generalize (lg_sl ([.ref jX, .ref ru, .int p1]) ++ List.replicate (4 - (lg_sl ([.ref jX, .ref ru, .int p1])).length) Slot.unset).toArray = ls at hl ⊢
  have hl : lv_has ls 4 [(0, .ref jX), (1, .ref ru), (2, .int p1)] := hl
  refine kQ (fun Q hQ => ?_)
  refine lv_iconst (v := 0) hx hb dX9_isLet_0 kc_i_0 ?_
  refine lv_istore_n hx hb dX9_isLet_1 rfl hl kc_l_3_4 (kTo [(3, .int 0), (0, .ref jX), (1, .ref ru), (2, .int p1)]) (fun ls hl => ?_)
  have lp_k_1 : ∀ (n9 : Nat) (i : Nat) (ll0 : Nat → Int32) (ll1 : Nat → Int32) (ivk_1_0 : i ≤ 5) (ivk_1_1 : ∀ q : Nat, q < i → ll0 q = kOl p1 q) (H : Heap) (locs : List Loc) (_ : va_P (dC, dI) vwCl [(jX, .inr (9, [.ref jT, .ref jR, .ref jK, .ref jL, .ref jU, .ref hF, .ref jC, .ref hN, .ref jA, .ref sd])), (jK, .inr (5, [.ref k0, .ref k1])), (k0, .inl (cK, 8, .inl ll0)), (k1, .inl (cO, 32, .inl ll1))] H) (_ : va_D A [(jX, .inr (9, [.ref jT, .ref jR, .ref jK, .ref jL, .ref jU, .ref hF, .ref jC, .ref hN, .ref jA, .ref sd])), (jK, .inr (5, [.ref k0, .ref k1])), (k0, .inl (cK, 8, .inl ll0)), (k1, .inl (cO, 32, .inl ll1))]) (_ : va_S A s.heap H locs) (ls : Array Slot) (_ : lv_has ls 4 [(3, .int (nI (i))), (0, .ref jX), (1, .ref ru), (2, .int p1)]) (_ : 5 - i < n9), W p l e (headSpec w_s_isLet9x ({ frames := 4, cells := 0, slots := 0, locals := 240 })).room s m (#[.ref jX, .ref ru, .int p1] : Array Value) below meth c H locs 0 0 Q (F0 m 2 ls []) := by
    intro n9
    induction n9 with
    | zero => intro i ll0 ll1 ivk_1_0 ivk_1_1 H locs hP hD hS ls hl hm9; exact absurd hm9 (Nat.not_lt_zero _)
    | succ n9 ih_k_1 =>
      intro i ll0 ll1 ivk_1_0 ivk_1_1 H locs hP hD hS ls hl hm9
      refine lv_iload_n hx hb dX9_isLet_2 rfl (lv_at hl 0 rfl) ?_
      refine lv_iconst (v := 5) hx hb dX9_isLet_3 kc_i_5 ?_
      refine lv_icmp_ge (tgt := 26) hx hb dX9_isLet_4 kc_t_4_22 (fun c_2 => ?_) (fun c_2 => ?_)
      · have bd_4 : i < 2147483648 := by omega
        have hn_3 := kle (a := 5) (b := i) kc_31_5 bd_4 c_2
        refine lv_aload_n hx hb dX9_isLet_26 rfl (lv_at hl 1 rfl) ?_
        refine va_get (D := (dC, dI)) (ci := 9) (v := .ref jK) (C := RX9) (T := TX9) (N := 10) hx hb hts (fun _ h => List.mem_cons_of_mem _ (List.mem_append_right _ (List.mem_append_left _ h))) hown hK hP 0 rfl rfl 2 kc_l_2_10 (hts (.fieldLink RX9 28 "NotEnded" "reckoner" "LNotEnded$Reckoner;") (List.mem_cons_of_mem _ (List.mem_append_left _ (List.mem_of_getElem? (i := 0) rfl)))) (fun _ h9 => h9) rfl dX9_isLet_27 ?_
        refine lv_aload_n hx hb dX9_isLet_30 rfl (lv_at hl 2 rfl) ?_
        refine lv_iconst (v := 0) hx hb dX9_isLet_31 kc_i_0 ?_
        have bd_5 : 0 < 100 := by omega
        have hCu := kCut (wc := [(jK, .inr (5, [.ref k0, .ref k1])), (k0, .inl (cK, 8, .inl ll0)), (k1, .inl (cO, 32, .inl ll1))]) hP hD hS hA [1, 2, 3] rfl kc_nd_419 rfl
        have hPc := hCu.1
        have hDc := hCu.2.1
        have hFc := hCu.2.2
        have hKc := hK.sb (tys2 := [(cK, .int), (cO, .int), (cS, .int), (cc, .int)]) [0, 1, 2, 3] rfl
        refine va_calli (va_runV (As := [.ref ru, .int 0]) (rest := []) ⟨hx, hb, hml, hown, hts⟩ (s_worthOf5x l dC dI jK k0 k1 cK cO ll0 ll1 ru sA cl cS cc nS nC gS gC hnS hnC t9 5 hru 0 bd_5 H.size) (cwV 2 hts (kG (List.forall_mem_cons.mpr ⟨(List.mem_cons_of_mem _ (List.mem_append_left _ (List.mem_of_getElem? (i := 4) rfl))), (List.forall_mem_cons.mpr ⟨(List.mem_cons_of_mem _ (List.mem_append_left _ (List.mem_of_getElem? (i := 3) rfl))), (List.forall_mem_cons.mpr ⟨(List.mem_cons_of_mem _ (List.mem_append_left _ (List.mem_of_getElem? (i := 2) rfl))), (List.forall_mem_cons.mpr ⟨(List.mem_cons_of_mem _ (List.mem_append_left _ (List.mem_of_getElem? (i := 1) rfl))), (fun _ h => absurd h List.not_mem_nil)⟩)⟩)⟩)⟩) (kGV _ _ _ _) (fun _ h => List.mem_cons_of_mem _ (List.mem_append_right _ (List.mem_append_right _ (List.mem_append_left _ h)))) gw_s_worthOf5x) rfl rfl rfl ⟨rfl, hd_X5_worthOf⟩ ⟨(Nat.le_of_ble_eq_true rfl), (Nat.le_of_ble_eq_true rfl)⟩) (kW_V kNF_blind (kNF_give hX hS hFc) (va_recv hKc hPc (ci := 5) (q0 := 0) rfl rfl) hPc hKc hDc) rfl rfl hl.1 rfl (lv_room (Nat.le_of_ble_eq_true rfl)) dX9_isLet_32 ⟨(Nat.le_of_ble_eq_true rfl), (Nat.le_of_ble_eq_true rfl)⟩) hS (fun q _ h => hFc q h) hFc (fun r_6 m1_7 t H_8 locs ht hvm hw hB hz1 hk1 hS => ?_)
        try dsimp only at hw
        have hPD : kPD dC dI A [(jX, .inr (9, [.ref jT, .ref jR, .ref jK, .ref jL, .ref jU, .ref hF, .ref jC, .ref hN, .ref jA, .ref sd])), (jK, .inr (5, [.ref k0, .ref k1])), (k0, .inl (cK, 8, .inl ll0)), (k1, .inl (cO, 32, .inl m1_7))] H_8 := kJoinX hP hD [1, 2, 3] rfl hk1 hFc hB.1 ht hB.2.2 rfl [none, some 0, some 1, some 2] rfl rfl
        have hP := hPD.1
        have hD := hPD.2
        have hw_9 := hw
        refine lv_if_eq (tgt := 42) hx hb dX9_isLet_35 kc_t_35_7 (fun c_10 => ?_) (fun c_10 => ?_)
        · refine lv_iconst (v := 0) hx hb dX9_isLet_42 kc_i_0 ?_
          have hq9 : kWoT (kOl p1) 0 t9 = r_6 := (kWoT_c (l1 := kOl p1) (M := 5) (fun k hk => (ivk_1_1 k (by omega)).symm) t9 hru.2.2.2.2.2).trans hw_9.symm
          have hP9 := hP
          have hD9 := hD
          have hK9 := hK
          rw [hQ]
          exact W.zret (v := 0) hx hb hr rfl (fun t ht hW => ⟨⟨0, (ll0, m1_7), rfl, (by unfold kLet; rw [hq9, if_pos c_10]),  by rw [ht]; exact hP9, va_K.moved hW.alike hK9, hD9⟩, hS.F ht⟩) hS.2.2 dX9_isLet_43
        · refine lv_iconst (v := 1) hx hb dX9_isLet_38 kc_i_1 ?_
          refine lv_goto (tgt := 43) hx hb dX9_isLet_39 kc_t_39_4 ?_
          have hq9 : kWoT (kOl p1) 0 t9 = r_6 := (kWoT_c (l1 := kOl p1) (M := 5) (fun k hk => (ivk_1_1 k (by omega)).symm) t9 hru.2.2.2.2.2).trans hw_9.symm
          have hP9 := hP
          have hD9 := hD
          have hK9 := hK
          rw [hQ]
          exact W.zret (v := 1) hx hb hr rfl (fun t ht hW => ⟨⟨1, (ll0, m1_7), rfl, (by unfold kLet; rw [hq9, if_neg c_10]),  by rw [ht]; exact hP9, va_K.moved hW.alike hK9, hD9⟩, hS.F ht⟩) hS.2.2 dX9_isLet_43
      · have bd_12 : i < 2147483648 := by omega
        have hn_11 := knle (a := 5) (b := i) kc_31_5 bd_12 c_2
        refine lv_aload_n hx hb dX9_isLet_7 rfl (lv_at hl 1 rfl) ?_
        refine va_get (D := (dC, dI)) (ci := 9) (v := .ref jK) (C := RX9) (T := TX9) (N := 10) hx hb hts (fun _ h => List.mem_cons_of_mem _ (List.mem_append_right _ (List.mem_append_left _ h))) hown hK hP 0 rfl rfl 2 kc_l_2_10 (hts (.fieldLink RX9 28 "NotEnded" "reckoner" "LNotEnded$Reckoner;") (List.mem_cons_of_mem _ (List.mem_append_left _ (List.mem_of_getElem? (i := 0) rfl)))) (fun _ h9 => h9) rfl dX9_isLet_8 ?_
        refine lv_iload_n hx hb dX9_isLet_11 rfl (lv_at hl 0 rfl) ?_
        refine lv_iload_n hx hb dX9_isLet_12 rfl (lv_at hl 3 rfl) ?_
        refine lv_iload_n hx hb dX9_isLet_13 rfl (lv_at hl 0 rfl) ?_
        refine lv_ishr hx hb dX9_isLet_14 ?_
        refine lv_topi (fun x_13 ex_13 => ?_)
        refine lv_iconst (v := 1) hx hb dX9_isLet_15 kc_i_1 ?_
        refine lv_iand hx hb dX9_isLet_16 ?_
        refine lv_topi (fun x_14 ex_14 => ?_)
        have bd_15 : i < 8 := by omega
        have hCu := kCut (wc := [(jK, .inr (5, [.ref k0, .ref k1])), (k0, .inl (cK, 8, .inl ll0)), (k1, .inl (cO, 32, .inl ll1))]) hP hD hS hA [1, 2, 3] rfl kc_nd_419 rfl
        have hPc := hCu.1
        have hDc := hCu.2.1
        have hFc := hCu.2.2
        have hKc := hK.sb (tys2 := [(cK, .int), (cO, .int)]) [0, 1] rfl
        refine va_callv (va_runV (As := [.int (nI (i)), .int x_14]) (rest := []) ⟨hx, hb, hml, hown, hts⟩ (s_setLetter5x l dC dI jK k0 k1 cK cO ll0 ll1 i bd_15 x_14 H.size) (cwV 2 hts (kG (List.forall_mem_cons.mpr ⟨(List.mem_cons_of_mem _ (List.mem_append_left _ (List.mem_of_getElem? (i := 7) rfl))), (List.forall_mem_cons.mpr ⟨(List.mem_cons_of_mem _ (List.mem_append_left _ (List.mem_of_getElem? (i := 6) rfl))), (List.forall_mem_cons.mpr ⟨(List.mem_cons_of_mem _ (List.mem_append_left _ (List.mem_of_getElem? (i := 5) rfl))), (List.forall_mem_cons.mpr ⟨(List.mem_cons_of_mem _ (List.mem_append_left _ (List.mem_of_getElem? (i := 1) rfl))), (fun _ h => absurd h List.not_mem_nil)⟩)⟩)⟩)⟩) (kGV _ _ _ _) (fun _ h => List.mem_cons_of_mem _ (List.mem_append_right _ (List.mem_append_right _ (List.mem_append_right _ h)))) gw_s_setLetter5x) rfl rfl rfl ⟨rfl, hd_X5_setLetter⟩ ⟨(Nat.le_of_ble_eq_true rfl), (Nat.le_of_ble_eq_true rfl)⟩) (kW_V kT_blind kT_give (va_recv hKc hPc (ci := 5) (q0 := 0) rfl rfl) hPc hKc hDc) rfl rfl hl.1 rfl (lv_room (Nat.le_of_ble_eq_true rfl)) dX9_isLet_17 ⟨(Nat.le_of_ble_eq_true rfl), (Nat.le_of_ble_eq_true rfl)⟩) hS (fun q _ h => hFc q h) hFc (fun m0_16 t H_17 locs ht hvm hw hB hz1 hk1 hS => ?_)
        try dsimp only at hw
        have hPD : kPD dC dI A [(jX, .inr (9, [.ref jT, .ref jR, .ref jK, .ref jL, .ref jU, .ref hF, .ref jC, .ref hN, .ref jA, .ref sd])), (jK, .inr (5, [.ref k0, .ref k1])), (k0, .inl (cK, 8, .inl m0_16)), (k1, .inl (cO, 32, .inl ll1))] H_17 := kJoinX hP hD [1, 2, 3] rfl hk1 hFc hB.1 ht hB.2.2 rfl [none, some 0, some 1, some 2] rfl rfl
        have hP := hPD.1
        have hD := hPD.2
        have hw_18 := hw
        refine lv_iinc (v := nI (i + 1)) hx hb dX9_isLet_20 hl (k := 0) rfl (kInc _ 1) kc_l_3_4 (kTo [(3, .int (nI (i + 1))), (0, .ref jX), (1, .ref ru), (2, .int p1)]) (fun ls hl => ?_)
        refine lv_goto (tgt := 2) hx hb dX9_isLet_23 kc_t_23_m21 ?_
        exact ih_k_1 (i + 1) m0_16 ll1 (by omega) (kOlU hw_18 ex_13 ex_14 ivk_1_1) _ _ hP hD hS ls (lv_sub hl [0, 1, 2, 3] rfl) (by omega)
  exact lp_k_1 (5 - 0 + 1) 0 l0 l1 (by omega) (fun q hq => absurd hq (Nat.not_lt_zero q)) _ _ hP hD hS ls (lv_sub hl [0, 1, 2, 3] rfl) (by omega)

def w_s_barred9x : List Cond := .code yX9_barredBy cX9_barredBy 4 (some .int) :: ([.initialized RX9, .selects RX9 yX9_isLet yX9_isLet, .instanceMethod yX9_isLet, .methodLink RX9 226 yX9_isLet] ++ (w_s_isLet9x))
theorem gw_s_barred9x : (w_s_barred9x).all goodWord = true := kGc rfl (kGa (by decide +kernel) gw_s_isLet9x)
set_option maxHeartbeats 4000000 in
set_option maxRecDepth 100000 in
theorem s_barred9x (l : Launch) (dC : Nat → ClassId) (dI : Nat → Nat → Nat) (jX : Nat) (jT : Nat) (jR : Nat) (jL : Nat) (jU : Nat) (hN : Nat) (jA : Nat) (sd : Nat) (hF : Nat) (jC : Nat) (jK : Nat) (k0 : Nat) (k1 : Nat) (cK : ClassId) (cO : ClassId) (l0 : Nat → Int32) (l1 : Nat → Int32) (ru : Nat) (sA : Nat) (cl : Nat) (cS : ClassId) (cc : ClassId) (nS : Nat) (nC : Nat) (gS : Nat → Int32) (gC : Nat → Int32) (hnS : nS ≤ 200) (hnC : nC ≤ 200) (t9 : List kTr) (hru : kRu t9 5 nS nC gS gC) (sz : Nat) : Met l yX9_barredBy w_s_barred9x ({ frames := 5, cells := 0, slots := 0, locals := 300 }) (kW dC dI [.ref jX, .ref ru] [(jX, .inr (9, [.ref jT, .ref jR, .ref jK, .ref jL, .ref jU, .ref hF, .ref jC, .ref hN, .ref jA, .ref sd])), (jK, .inr (5, [.ref k0, .ref k1])), (k0, .inl (cK, 8, .inl l0)), (k1, .inl (cO, 32, .inl l1))] [(cK, .int), (cO, .int), (cS, .int), (cc, .int)] (kNF dC dI [(ru, .inr (6, [.ref sA, .ref cl])), (sA, .inl (cS, nS, .inl gS)), (cl, .inl (cc, nC, .inl gC))] (va_A [(jX, .inr (9, [.ref jT, .ref jR, .ref jK, .ref jL, .ref jU, .ref hF, .ref jC, .ref hN, .ref jA, .ref sd])), (jK, .inr (5, [.ref k0, .ref k1])), (k0, .inl (cK, 8, .inl l0)), (k1, .inl (cO, 32, .inl l1))] sz)) sz) (va_Qi (fun (r : Int32) (u : (Nat → Int32) × (Nat → Int32)) => match u with | (L0, L1) => r = nI (kBar t9)) (fun (u : (Nat → Int32) × (Nat → Int32)) => match u with | (L0, L1) => fun t : State => kB dC dI [(jX, .inr (9, [.ref jT, .ref jR, .ref jK, .ref jL, .ref jU, .ref hF, .ref jC, .ref hN, .ref jA, .ref sd])), (jK, .inr (5, [.ref k0, .ref k1])), (k0, .inl (cK, 8, .inl L0)), (k1, .inl (cO, 32, .inl L1))] [(cK, .int), (cO, .int), (cS, .int), (cc, .int)] (va_A [(jX, .inr (9, [.ref jT, .ref jR, .ref jK, .ref jL, .ref jU, .ref hF, .ref jC, .ref hN, .ref jA, .ref sd])), (jK, .inr (5, [.ref k0, .ref k1])), (k0, .inl (cK, 8, .inl l0)), (k1, .inl (cO, 32, .inl l1))] sz) t) (va_A [(jX, .inr (9, [.ref jT, .ref jR, .ref jK, .ref jL, .ref jU, .ref hF, .ref jC, .ref hN, .ref jA, .ref sd])), (jK, .inr (5, [.ref k0, .ref k1])), (k0, .inl (cK, 8, .inl l0)), (k1, .inl (cO, 32, .inl l1))] sz)) 0 0 (va_A [(jX, .inr (9, [.ref jT, .ref jR, .ref jK, .ref jL, .ref jU, .ref hF, .ref jC, .ref hN, .ref jA, .ref sd])), (jK, .inr (5, [.ref k0, .ref k1])), (k0, .inl (cK, 8, .inl l0)), (k1, .inl (cO, 32, .inl l1))] sz) := by
  refine Met.ofW (cc := cX9_barredBy) (maxL := 4) (ret := (some .int)) (by decide) rfl ?_
  intro p e s m args below meth c s₁ B hml hv
  obtain ⟨rfl, hsz, hP, hK, hD0, hX⟩ := hv
  have hx := B.exec
  have hb := B.bytes
  have hr := B.returns
  have hts := atoms_spec (ws := w_s_barred9x) B.pre
  have hown : s.vm.findClass RX9 = some m.cls := findClass_of_methodNamed B.named
  have hlocks := B.notSynchronized
  subst hsz
  have hD := hD0.self (sz := s.heap.size)
  generalize hAe : va_A [(jX, .inr (9, [.ref jT, .ref jR, .ref jK, .ref jL, .ref jU, .ref hF, .ref jC, .ref hN, .ref jA, .ref sd])), (jK, .inr (5, [.ref k0, .ref k1])), (k0, .inl (cK, 8, .inl l0)), (k1, .inl (cO, 32, .inl l1))] s.heap.size = A at hD hX ⊢
  have hA : ∀ q : Nat, s.heap.size ≤ q → A q := fun q h => by rw [← hAe]; exact Or.inr h
  have hS : va_S A s.heap s.heap [] := va_S.rf
  have hP : va_P (dC, dI) vwCl [(jX, .inr (9, [.ref jT, .ref jR, .ref jK, .ref jL, .ref jU, .ref hF, .ref jC, .ref hN, .ref jA, .ref sd])), (jK, .inr (5, [.ref k0, .ref k1])), (k0, .inl (cK, 8, .inl l0)), (k1, .inl (cO, 32, .inl l1))] s.heap := hP
  have hl := lv_entry ([.ref jX, .ref ru]) (n := 4) (Nat.le_of_ble_eq_true rfl)
  rw [lg_entry_eq]
  generalize (lg_sl ([.ref jX, .ref ru]) ++ List.replicate (4 - (lg_sl ([.ref jX, .ref ru])).length) Slot.unset).toArray = ls at hl ⊢
  have hl : lv_has ls 4 [(0, .ref jX), (1, .ref ru)] := hl
  refine kQ (fun Q hQ => ?_)
  refine lv_iconst (v := 0) hx hb dX9_barredBy_0 kc_i_0 ?_
  refine lv_istore_n hx hb dX9_barredBy_1 rfl hl kc_l_2_4 (kTo [(2, .int 0), (0, .ref jX), (1, .ref ru)]) (fun ls hl => ?_)
  refine lv_iconst (v := 0) hx hb dX9_barredBy_2 kc_i_0 ?_
  refine lv_istore_n hx hb dX9_barredBy_3 rfl hl kc_l_3_4 (kTo [(3, .int 0), (2, .int 0), (0, .ref jX), (1, .ref ru)]) (fun ls hl => ?_)
  have lp_k_1 : ∀ (n9 : Nat) (i : Nat) (ll0 : Nat → Int32) (ll1 : Nat → Int32) (x2 : Int32) (ivk_1_0 : i ≤ 32) (ivk_1_1 : x2 = nI (kBrN (fun k => kLet (nI k) t9) i)) (H : Heap) (locs : List Loc) (_ : va_P (dC, dI) vwCl [(jX, .inr (9, [.ref jT, .ref jR, .ref jK, .ref jL, .ref jU, .ref hF, .ref jC, .ref hN, .ref jA, .ref sd])), (jK, .inr (5, [.ref k0, .ref k1])), (k0, .inl (cK, 8, .inl ll0)), (k1, .inl (cO, 32, .inl ll1))] H) (_ : va_D A [(jX, .inr (9, [.ref jT, .ref jR, .ref jK, .ref jL, .ref jU, .ref hF, .ref jC, .ref hN, .ref jA, .ref sd])), (jK, .inr (5, [.ref k0, .ref k1])), (k0, .inl (cK, 8, .inl ll0)), (k1, .inl (cO, 32, .inl ll1))]) (_ : va_S A s.heap H locs) (ls : Array Slot) (_ : lv_has ls 4 [(3, .int (nI (i))), (2, .int x2), (0, .ref jX), (1, .ref ru)]) (_ : 32 - i < n9), W p l e (headSpec w_s_barred9x ({ frames := 5, cells := 0, slots := 0, locals := 300 })).room s m (#[.ref jX, .ref ru] : Array Value) below meth c H locs 0 0 Q (F0 m 4 ls []) := by
    intro n9
    induction n9 with
    | zero => intro i ll0 ll1 x2 ivk_1_0 ivk_1_1 H locs hP hD hS ls hl hm9; exact absurd hm9 (Nat.not_lt_zero _)
    | succ n9 ih_k_1 =>
      intro i ll0 ll1 x2 ivk_1_0 ivk_1_1 H locs hP hD hS ls hl hm9
      refine lv_iload_n hx hb dX9_barredBy_4 rfl (lv_at hl 0 rfl) ?_
      refine lv_bipush (v := 32) hx hb dX9_barredBy_5 kc_b_32 ?_
      refine lv_icmp_ge (tgt := 31) hx hb dX9_barredBy_7 kc_t_7_24 (fun c_2 => ?_) (fun c_2 => ?_)
      · have bd_4 : i < 2147483648 := by omega
        have hn_3 := kle (a := 32) (b := i) kc_31_32 bd_4 c_2
        refine lv_iload_n hx hb dX9_barredBy_31 rfl (lv_at hl 1 rfl) ?_
        have hP9 := hP
        have hD9 := hD
        have hK9 := hK
        rw [hQ]
        exact W.iret (v := x2) hx hb hr (fun t ht hW => ⟨⟨x2, (ll0, ll1), rfl, (by rw [ivk_1_1, show i = 32 by omega]; rfl),  by rw [ht]; exact hP9, va_K.moved hW.alike hK9, hD9⟩, hS.F ht⟩) hS.2.2 dX9_barredBy_32
      · have bd_6 : i < 2147483648 := by omega
        have hn_5 := knle (a := 32) (b := i) kc_31_32 bd_6 c_2
        refine lv_aload_n hx hb dX9_barredBy_10 rfl (lv_at hl 2 rfl) ?_
        refine lv_aload_n hx hb dX9_barredBy_11 rfl (lv_at hl 3 rfl) ?_
        refine lv_iload_n hx hb dX9_barredBy_12 rfl (lv_at hl 0 rfl) ?_
        have hCu := kCut (wc := [(jX, .inr (9, [.ref jT, .ref jR, .ref jK, .ref jL, .ref jU, .ref hF, .ref jC, .ref hN, .ref jA, .ref sd])), (jK, .inr (5, [.ref k0, .ref k1])), (k0, .inl (cK, 8, .inl ll0)), (k1, .inl (cO, 32, .inl ll1))]) hP hD hS hA [0, 1, 2, 3] rfl kc_nd_422 rfl
        have hPc := hCu.1
        have hDc := hCu.2.1
        have hFc := hCu.2.2
        have hKc := hK.sb (tys2 := [(cK, .int), (cO, .int), (cS, .int), (cc, .int)]) [0, 1, 2, 3] rfl
        refine va_calli (va_runV (As := [.ref ru, .int (nI (i))]) (rest := []) ⟨hx, hb, hml, hown, hts⟩ (s_isLet9x l dC dI jX jT jR jL jU hN jA sd hF jC jK k0 k1 cK cO ll0 ll1 ru sA cl cS cc nS nC gS gC hnS hnC t9 hru (nI (i)) H.size) (cwV 2 hts (kG (List.forall_mem_cons.mpr ⟨(List.mem_cons_of_mem _ (List.mem_append_left _ (List.mem_of_getElem? (i := 3) rfl))), (List.forall_mem_cons.mpr ⟨(List.mem_cons_of_mem _ (List.mem_append_left _ (List.mem_of_getElem? (i := 2) rfl))), (List.forall_mem_cons.mpr ⟨(List.mem_cons_of_mem _ (List.mem_append_left _ (List.mem_of_getElem? (i := 1) rfl))), (List.forall_mem_cons.mpr ⟨(List.mem_cons_of_mem _ (List.mem_append_left _ (List.mem_of_getElem? (i := 0) rfl))), (fun _ h => absurd h List.not_mem_nil)⟩)⟩)⟩)⟩) (kGV _ _ _ _) (fun _ h => List.mem_cons_of_mem _ (List.mem_append_right _ h)) gw_s_isLet9x) rfl rfl rfl ⟨rfl, hd_X9_isLet⟩ ⟨(Nat.le_of_ble_eq_true rfl), (Nat.le_of_ble_eq_true rfl)⟩) (kW_V kNF_blind (kNF_give hX hS hFc) (va_recv hKc hPc (ci := 9) (q0 := 0) rfl rfl) hPc hKc hDc) rfl rfl hl.1 rfl (lv_room (Nat.le_of_ble_eq_true rfl)) dX9_barredBy_13 ⟨(Nat.le_of_ble_eq_true rfl), (Nat.le_of_ble_eq_true rfl)⟩) hS (fun q _ h => hFc q h) hFc (fun r_7 => kU2 (fun L0_8 L1_9 t H_10 locs ht hvm hw hB hz1 hk1 hS => ?_))
        try dsimp only at hw
        have hPD : kPD dC dI A [(jX, .inr (9, [.ref jT, .ref jR, .ref jK, .ref jL, .ref jU, .ref hF, .ref jC, .ref hN, .ref jA, .ref sd])), (jK, .inr (5, [.ref k0, .ref k1])), (k0, .inl (cK, 8, .inl L0_8)), (k1, .inl (cO, 32, .inl L1_9))] H_10 := kJoinX hP hD [0, 1, 2, 3] rfl hk1 hFc hB.1 ht hB.2.2 rfl [some 0, some 1, some 2, some 3] rfl rfl
        have hP := hPD.1
        have hD := hPD.2
        have hw_11 := hw
        refine lv_if_ne (tgt := 25) hx hb dX9_barredBy_16 kc_t_16_9 (fun c_12 => ?_) (fun c_12 => ?_)
        · refine lv_iinc (v := nI (i + 1)) hx hb dX9_barredBy_25 hl (k := 0) rfl (kInc _ 1) kc_l_3_4 (kTo [(3, .int (nI (i + 1))), (2, .int x2), (0, .ref jX), (1, .ref ru)]) (fun ls hl => ?_)
          refine lv_goto (tgt := 4) hx hb dX9_barredBy_28 kc_t_28_m24 ?_
          exact ih_k_1 (i + 1) L0_8 L1_9 x2 (by omega) (by rw [kBrS (fun z => c_12 (hw_11.trans z))]; exact ivk_1_1) _ _ hP hD hS ls (lv_sub hl [0, 1, 2, 3] rfl) (by omega)
        · refine lv_iload_n hx hb dX9_barredBy_19 rfl (lv_at hl 1 rfl) ?_
          refine lv_iconst (v := 1) hx hb dX9_barredBy_20 kc_i_1 ?_
          refine lv_iload_n hx hb dX9_barredBy_21 rfl (lv_at hl 0 rfl) ?_
          refine lv_ishl hx hb dX9_barredBy_22 ?_
          refine lv_topi (fun x_13 ex_13 => ?_)
          refine lv_ior hx hb dX9_barredBy_23 ?_
          refine lv_topi (fun x_14 ex_14 => ?_)
          refine lv_istore_n hx hb dX9_barredBy_24 rfl hl kc_l_2_4 (kTo [(2, .int x_14), (3, .int (nI (i))), (0, .ref jX), (1, .ref ru)]) (fun ls hl => ?_)
          refine lv_iinc (v := nI (i + 1)) hx hb dX9_barredBy_25 hl (k := 1) rfl (kInc _ 1) kc_l_3_4 (kTo [(3, .int (nI (i + 1))), (2, .int x_14), (0, .ref jX), (1, .ref ru)]) (fun ls hl => ?_)
          refine lv_goto (tgt := 4) hx hb dX9_barredBy_28 kc_t_28_m24 ?_
          exact ih_k_1 (i + 1) L0_8 L1_9 x_14 (by omega) (kBrU (by omega) ivk_1_1 (hw_11.symm.trans c_12) ex_13 ex_14) _ _ hP hD hS ls (lv_sub hl [0, 1, 2, 3] rfl) (by omega)
  exact lp_k_1 (32 - 0 + 1) 0 l0 l1 0 (by omega) rfl _ _ hP hD hS ls (lv_sub hl [0, 1, 2, 3] rfl) (by omega)
