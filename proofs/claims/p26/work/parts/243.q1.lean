def w_s_sum4x_I : List Cond := .code yX4_readSum cX4_readSum 4 (some .boolean) :: wf_rq
theorem gw_s_sum4x_I : (w_s_sum4x_I).all goodWord = true := kFamG rfl gf_rq
/-- one depth deeper -/
def kQsum (e1 : Nat) : Prop := ∀ (l : Launch) (dC : Nat → ClassId) (dI : Nat → Nat → Nat) (jT : Nat) (t0 : Nat) (cC : ClassId) (gT : Nat → Int32) (kt : Nat) (hkt : kt ≤ 120) (hgT : ∀ j : Nat, narrow .char (.int (gT j)) = .int (gT j)) (bt : Nat → Nat) (hbt : ∀ j : Nat, gT j = nI (bt j)) (hb8 : ∀ j : Nat, bt j < 256) (jR : Nat) (r1 : Nat) (r2 : Nat) (c1 : ClassId) (c2 : ClassId) (s1 : Nat → Int32) (s2 : Nat → Int32) (wr : Nat) (fi : Nat) (q6 : Nat) (q7 : Nat) (hwr : wr ≤ 120) (hfi : fi ≤ 124) (pn : Nat) (hpn : pn ≤ kt) (hwp : wr ≤ pn) (b6 : Nat) (n6 : Nat) (g6 : Nat → Int32) (hn6 : n6 ≤ 8) (b7 : Nat) (n7 : Nat) (g7 : Nat → Int32) (hn7 : n7 ≤ 8) (gn6 : ∀ k : Nat, ∃ v : Nat, v < 128 ∧ g6 k = nI v) (hz6 : kIx g6 n6 (nI 0) = n6) (gn7 : ∀ k : Nat, ∃ v : Nat, v < 128 ∧ g7 k = nI v) (hz7 : kIx g7 n7 (nI 0) = n7) (dd : Nat) (hde : dd + e1 = 6) (sz : Nat), Met l yX4_readSum w_s_sum4x_I ({ frames := (8 + 6 * e1), cells := 0, slots := 0, locals := 60 * (8 + 6 * e1) }) (kW dC dI [.ref jR, .int (nI (dd))] [(jR, .inr (4, [.ref jT, .ref r1, .ref r2, .int (nI (wr)), .int (nI (fi)), .int (nI (pn)), .ref q6, .ref q7])), (r1, .inl (c1, 120, .inl s1)), (r2, .inl (c2, 124, .inl s2)), (jT, .inr (8, [.ref t0, .int (nI (kt))])), (t0, .inl (cC, 120, .inl gT))] [(c1, .int), (c2, .int), (cC, .char)] (kS2 q6 b6 n6 g6 q7 b7 n7 g7 (va_A [(jR, .inr (4, [.ref jT, .ref r1, .ref r2, .int (nI (wr)), .int (nI (fi)), .int (nI (pn)), .ref q6, .ref q7])), (r1, .inl (c1, 120, .inl s1)), (r2, .inl (c2, 124, .inl s2)), (jT, .inr (8, [.ref t0, .int (nI (kt))])), (t0, .inl (cC, 120, .inl gT))] sz)) sz) (va_Qi (fun (r : Int32) (u : (Nat → Int32) × Nat × Nat × Bool × (List Int32)) => match u with | (S1, Wr, Pn, xo, xl) => (r = kBo xo ∧ kPR (kSumD bt kt g7 n7 e1 pn) pn kt wr s1 xo Pn xl Wr S1 ∧ Wr ≤ 120)) (fun (u : (Nat → Int32) × Nat × Nat × Bool × (List Int32)) => match u with | (S1, Wr, Pn, xo, xl) => fun t : State => kB dC dI [(jR, .inr (4, [.ref jT, .ref r1, .ref r2, .int (nI (Wr)), .int (nI (fi)), .int (nI (Pn)), .ref q6, .ref q7])), (r1, .inl (c1, 120, .inl S1)), (r2, .inl (c2, 124, .inl s2)), (jT, .inr (8, [.ref t0, .int (nI (kt))])), (t0, .inl (cC, 120, .inl gT))] [(c1, .int), (c2, .int), (cC, .char)] (va_A [(jR, .inr (4, [.ref jT, .ref r1, .ref r2, .int (nI (wr)), .int (nI (fi)), .int (nI (pn)), .ref q6, .ref q7])), (r1, .inl (c1, 120, .inl s1)), (r2, .inl (c2, 124, .inl s2)), (jT, .inr (8, [.ref t0, .int (nI (kt))])), (t0, .inl (cC, 120, .inl gT))] sz) t) (va_A [(jR, .inr (4, [.ref jT, .ref r1, .ref r2, .int (nI (wr)), .int (nI (fi)), .int (nI (pn)), .ref q6, .ref q7])), (r1, .inl (c1, 120, .inl s1)), (r2, .inl (c2, 124, .inl s2)), (jT, .inr (8, [.ref t0, .int (nI (kt))])), (t0, .inl (cC, 120, .inl gT))] sz)) 0 0 (va_A [(jR, .inr (4, [.ref jT, .ref r1, .ref r2, .int (nI (wr)), .int (nI (fi)), .int (nI (pn)), .ref q6, .ref q7])), (r1, .inl (c1, 120, .inl s1)), (r2, .inl (c2, 124, .inl s2)), (jT, .inr (8, [.ref t0, .int (nI (kt))])), (t0, .inl (cC, 120, .inl gT))] sz)

def w_s_unit4x_I_0 : List Cond := .code yX4_readUnit cX4_readUnit 4 (some .boolean) :: wf_rq
theorem gw_s_unit4x_I_0 : (w_s_unit4x_I_0).all goodWord = true := kFamG rfl gf_rq
/-- one depth deeper -/
def kQunit (e1 : Nat) : Prop := ∀ (l : Launch) (dC : Nat → ClassId) (dI : Nat → Nat → Nat) (jT : Nat) (t0 : Nat) (cC : ClassId) (gT : Nat → Int32) (kt : Nat) (hkt : kt ≤ 120) (hgT : ∀ j : Nat, narrow .char (.int (gT j)) = .int (gT j)) (bt : Nat → Nat) (hbt : ∀ j : Nat, gT j = nI (bt j)) (hb8 : ∀ j : Nat, bt j < 256) (jR : Nat) (r1 : Nat) (r2 : Nat) (c1 : ClassId) (c2 : ClassId) (s1 : Nat → Int32) (s2 : Nat → Int32) (wr : Nat) (fi : Nat) (q6 : Nat) (q7 : Nat) (hwr : wr ≤ 120) (hfi : fi ≤ 124) (pn : Nat) (hpn : pn ≤ kt) (hwp : wr ≤ pn) (b6 : Nat) (n6 : Nat) (g6 : Nat → Int32) (hn6 : n6 ≤ 8) (b7 : Nat) (n7 : Nat) (g7 : Nat → Int32) (hn7 : n7 ≤ 8) (gn6 : ∀ k : Nat, ∃ v : Nat, v < 128 ∧ g6 k = nI v) (hz6 : kIx g6 n6 (nI 0) = n6) (gn7 : ∀ k : Nat, ∃ v : Nat, v < 128 ∧ g7 k = nI v) (hz7 : kIx g7 n7 (nI 0) = n7) (dd : Nat) (hde : dd + e1 = 6) (sz : Nat), Met l yX4_readUnit w_s_unit4x_I_0 ({ frames := (9 + 6 * e1), cells := 0, slots := 0, locals := 60 * (9 + 6 * e1) }) (kW dC dI [.ref jR, .int (nI (dd)), .int 0] [(jR, .inr (4, [.ref jT, .ref r1, .ref r2, .int (nI (wr)), .int (nI (fi)), .int (nI (pn)), .ref q6, .ref q7])), (r1, .inl (c1, 120, .inl s1)), (r2, .inl (c2, 124, .inl s2)), (jT, .inr (8, [.ref t0, .int (nI (kt))])), (t0, .inl (cC, 120, .inl gT))] [(c1, .int), (c2, .int), (cC, .char)] (kS2 q6 b6 n6 g6 q7 b7 n7 g7 (va_A [(jR, .inr (4, [.ref jT, .ref r1, .ref r2, .int (nI (wr)), .int (nI (fi)), .int (nI (pn)), .ref q6, .ref q7])), (r1, .inl (c1, 120, .inl s1)), (r2, .inl (c2, 124, .inl s2)), (jT, .inr (8, [.ref t0, .int (nI (kt))])), (t0, .inl (cC, 120, .inl gT))] sz)) sz) (va_Qi (fun (r : Int32) (u : (Nat → Int32) × Nat × Nat × Bool × (List Int32)) => match u with | (S1, Wr, Pn, xo, xl) => (r = kBo xo ∧ kPR (kUnitD bt kt g7 n7 e1 pn) pn kt wr s1 xo Pn xl Wr S1 ∧ Wr ≤ 120)) (fun (u : (Nat → Int32) × Nat × Nat × Bool × (List Int32)) => match u with | (S1, Wr, Pn, xo, xl) => fun t : State => kB dC dI [(jR, .inr (4, [.ref jT, .ref r1, .ref r2, .int (nI (Wr)), .int (nI (fi)), .int (nI (Pn)), .ref q6, .ref q7])), (r1, .inl (c1, 120, .inl S1)), (r2, .inl (c2, 124, .inl s2)), (jT, .inr (8, [.ref t0, .int (nI (kt))])), (t0, .inl (cC, 120, .inl gT))] [(c1, .int), (c2, .int), (cC, .char)] (va_A [(jR, .inr (4, [.ref jT, .ref r1, .ref r2, .int (nI (wr)), .int (nI (fi)), .int (nI (pn)), .ref q6, .ref q7])), (r1, .inl (c1, 120, .inl s1)), (r2, .inl (c2, 124, .inl s2)), (jT, .inr (8, [.ref t0, .int (nI (kt))])), (t0, .inl (cC, 120, .inl gT))] sz) t) (va_A [(jR, .inr (4, [.ref jT, .ref r1, .ref r2, .int (nI (wr)), .int (nI (fi)), .int (nI (pn)), .ref q6, .ref q7])), (r1, .inl (c1, 120, .inl s1)), (r2, .inl (c2, 124, .inl s2)), (jT, .inr (8, [.ref t0, .int (nI (kt))])), (t0, .inl (cC, 120, .inl gT))] sz)) 0 0 (va_A [(jR, .inr (4, [.ref jT, .ref r1, .ref r2, .int (nI (wr)), .int (nI (fi)), .int (nI (pn)), .ref q6, .ref q7])), (r1, .inl (c1, 120, .inl s1)), (r2, .inl (c2, 124, .inl s2)), (jT, .inr (8, [.ref t0, .int (nI (kt))])), (t0, .inl (cC, 120, .inl gT))] sz)

def w_s_cond4x_I_0 : List Cond := .code yX4_readCondition cX4_readCondition 4 (some .boolean) :: wf_rq
theorem gw_s_cond4x_I_0 : (w_s_cond4x_I_0).all goodWord = true := kFamG rfl gf_rq
/-- one depth deeper -/
def kQcond (e1 : Nat) : Prop := ∀ (l : Launch) (dC : Nat → ClassId) (dI : Nat → Nat → Nat) (jT : Nat) (t0 : Nat) (cC : ClassId) (gT : Nat → Int32) (kt : Nat) (hkt : kt ≤ 120) (hgT : ∀ j : Nat, narrow .char (.int (gT j)) = .int (gT j)) (bt : Nat → Nat) (hbt : ∀ j : Nat, gT j = nI (bt j)) (hb8 : ∀ j : Nat, bt j < 256) (jR : Nat) (r1 : Nat) (r2 : Nat) (c1 : ClassId) (c2 : ClassId) (s1 : Nat → Int32) (s2 : Nat → Int32) (wr : Nat) (fi : Nat) (q6 : Nat) (q7 : Nat) (hwr : wr ≤ 120) (hfi : fi ≤ 124) (pn : Nat) (hpn : pn ≤ kt) (hwp : wr ≤ pn) (b6 : Nat) (n6 : Nat) (g6 : Nat → Int32) (hn6 : n6 ≤ 8) (b7 : Nat) (n7 : Nat) (g7 : Nat → Int32) (hn7 : n7 ≤ 8) (gn6 : ∀ k : Nat, ∃ v : Nat, v < 128 ∧ g6 k = nI v) (hz6 : kIx g6 n6 (nI 0) = n6) (gn7 : ∀ k : Nat, ∃ v : Nat, v < 128 ∧ g7 k = nI v) (hz7 : kIx g7 n7 (nI 0) = n7) (dd : Nat) (hde : dd + e1 = 6) (sz : Nat), Met l yX4_readCondition w_s_cond4x_I_0 ({ frames := (11 + 6 * e1), cells := 0, slots := 0, locals := 60 * (11 + 6 * e1) }) (kW dC dI [.ref jR, .int (nI (dd)), .int 0] [(jR, .inr (4, [.ref jT, .ref r1, .ref r2, .int (nI (wr)), .int (nI (fi)), .int (nI (pn)), .ref q6, .ref q7])), (r1, .inl (c1, 120, .inl s1)), (r2, .inl (c2, 124, .inl s2)), (jT, .inr (8, [.ref t0, .int (nI (kt))])), (t0, .inl (cC, 120, .inl gT))] [(c1, .int), (c2, .int), (cC, .char)] (kS2 q6 b6 n6 g6 q7 b7 n7 g7 (va_A [(jR, .inr (4, [.ref jT, .ref r1, .ref r2, .int (nI (wr)), .int (nI (fi)), .int (nI (pn)), .ref q6, .ref q7])), (r1, .inl (c1, 120, .inl s1)), (r2, .inl (c2, 124, .inl s2)), (jT, .inr (8, [.ref t0, .int (nI (kt))])), (t0, .inl (cC, 120, .inl gT))] sz)) sz) (va_Qi (fun (r : Int32) (u : (Nat → Int32) × Nat × Nat × Bool × (List Int32)) => match u with | (S1, Wr, Pn, xo, xl) => (r = kBo xo ∧ kPR (kConD bt kt g7 n7 e1 pn) pn kt wr s1 xo Pn xl Wr S1 ∧ Wr ≤ 120)) (fun (u : (Nat → Int32) × Nat × Nat × Bool × (List Int32)) => match u with | (S1, Wr, Pn, xo, xl) => fun t : State => kB dC dI [(jR, .inr (4, [.ref jT, .ref r1, .ref r2, .int (nI (Wr)), .int (nI (fi)), .int (nI (Pn)), .ref q6, .ref q7])), (r1, .inl (c1, 120, .inl S1)), (r2, .inl (c2, 124, .inl s2)), (jT, .inr (8, [.ref t0, .int (nI (kt))])), (t0, .inl (cC, 120, .inl gT))] [(c1, .int), (c2, .int), (cC, .char)] (va_A [(jR, .inr (4, [.ref jT, .ref r1, .ref r2, .int (nI (wr)), .int (nI (fi)), .int (nI (pn)), .ref q6, .ref q7])), (r1, .inl (c1, 120, .inl s1)), (r2, .inl (c2, 124, .inl s2)), (jT, .inr (8, [.ref t0, .int (nI (kt))])), (t0, .inl (cC, 120, .inl gT))] sz) t) (va_A [(jR, .inr (4, [.ref jT, .ref r1, .ref r2, .int (nI (wr)), .int (nI (fi)), .int (nI (pn)), .ref q6, .ref q7])), (r1, .inl (c1, 120, .inl s1)), (r2, .inl (c2, 124, .inl s2)), (jT, .inr (8, [.ref t0, .int (nI (kt))])), (t0, .inl (cC, 120, .inl gT))] sz)) 0 0 (va_A [(jR, .inr (4, [.ref jT, .ref r1, .ref r2, .int (nI (wr)), .int (nI (fi)), .int (nI (pn)), .ref q6, .ref q7])), (r1, .inl (c1, 120, .inl s1)), (r2, .inl (c2, 124, .inl s2)), (jT, .inr (8, [.ref t0, .int (nI (kt))])), (t0, .inl (cC, 120, .inl gT))] sz)

def kIHq (e1 : Nat) : Prop := kQsum e1 ∧ kQunit e1 ∧ kQcond e1

theorem dX4_readAtom_19 : decode cX4_readAtom 19 = .ok (.aload_n 0, 1) := kDs0 kf_42 (by decide +kernel)
theorem dX4_readAtom_20 : decode cX4_readAtom 20 = .ok (.iload_n 1, 1) := kDs0 kf_27 (by decide +kernel)
theorem dX4_readAtom_21 : decode cX4_readAtom 21 = .ok (.iconst 1, 1) := kDs0 kf_4 (by decide +kernel)
theorem dX4_readAtom_22 : decode cX4_readAtom 22 = .ok (.iadd, 1) := kDs0 kf_96 (by decide +kernel)
theorem dX4_readAtom_23 : decode cX4_readAtom 23 = .ok (.invokevirtual 78, 3) := kDs2 kf_182 (by decide +kernel)
theorem dX4_readAtom_26 : decode cX4_readAtom 26 = .ok (.ifCond .eq 16, 3) := kDs4 kf_153 (by decide +kernel)
theorem dX4_readAtom_29 : decode cX4_readAtom 29 = .ok (.aload_n 0, 1) := kDs0 kf_42 (by decide +kernel)
theorem dX4_readAtom_30 : decode cX4_readAtom 30 = .ok (.bipush 93, 2) := kDs3 kf_16 (by decide +kernel)
theorem dX4_readAtom_32 : decode cX4_readAtom 32 = .ok (.invokevirtual 57, 3) := kDs2 kf_182 (by decide +kernel)
theorem dX4_readAtom_35 : decode cX4_readAtom 35 = .ok (.ifCond .eq 7, 3) := kDs4 kf_153 (by decide +kernel)
theorem dX4_readAtom_38 : decode cX4_readAtom 38 = .ok (.iconst 1, 1) := kDs0 kf_4 (by decide +kernel)
theorem dX4_readAtom_39 : decode cX4_readAtom 39 = .ok (.goto 4, 3) := kDs4 kf_167 (by decide +kernel)
def w_s_atom4x_g : List Cond := .code yX4_readAtom cX4_readAtom 4 (some .boolean) :: wf_rq
theorem gw_s_atom4x_g : (w_s_atom4x_g).all goodWord = true := kFamG rfl gf_rq
set_option maxHeartbeats 4000000 in
set_option maxRecDepth 100000 in
theorem s_atom4x_g (l : Launch) (dC : Nat → ClassId) (dI : Nat → Nat → Nat) (jT : Nat) (t0 : Nat) (cC : ClassId) (gT : Nat → Int32) (kt : Nat) (hkt : kt ≤ 120) (hgT : ∀ j : Nat, narrow .char (.int (gT j)) = .int (gT j)) (bt : Nat → Nat) (hbt : ∀ j : Nat, gT j = nI (bt j)) (hb8 : ∀ j : Nat, bt j < 256) (jR : Nat) (r1 : Nat) (r2 : Nat) (c1 : ClassId) (c2 : ClassId) (s1 : Nat → Int32) (s2 : Nat → Int32) (wr : Nat) (fi : Nat) (q6 : Nat) (q7 : Nat) (hwr : wr ≤ 120) (hfi : fi ≤ 124) (pn : Nat) (hpn : pn ≤ kt) (hwp : wr ≤ pn) (b6 : Nat) (n6 : Nat) (g6 : Nat → Int32) (hn6 : n6 ≤ 8) (b7 : Nat) (n7 : Nat) (g7 : Nat → Int32) (hn7 : n7 ≤ 8) (gn6 : ∀ k : Nat, ∃ v : Nat, v < 128 ∧ g6 k = nI v) (hz6 : kIx g6 n6 (nI 0) = n6) (gn7 : ∀ k : Nat, ∃ v : Nat, v < 128 ∧ g7 k = nI v) (hz7 : kIx g7 n7 (nI 0) = n7) (e1 : Nat) (dd : Nat) (hdd : dd + e1 = 5) (ih : kIHq e1) (sz : Nat) : Met l yX4_readAtom w_s_atom4x_g ({ frames := (6 + 6 * (e1 + 1)), cells := 0, slots := 0, locals := 60 * (6 + 6 * (e1 + 1)) }) (kW dC dI [.ref jR, .int (nI (dd))] [(jR, .inr (4, [.ref jT, .ref r1, .ref r2, .int (nI (wr)), .int (nI (fi)), .int (nI (pn)), .ref q6, .ref q7])), (r1, .inl (c1, 120, .inl s1)), (r2, .inl (c2, 124, .inl s2)), (jT, .inr (8, [.ref t0, .int (nI (kt))])), (t0, .inl (cC, 120, .inl gT))] [(c1, .int), (c2, .int), (cC, .char)] (kS2 q6 b6 n6 g6 q7 b7 n7 g7 (va_A [(jR, .inr (4, [.ref jT, .ref r1, .ref r2, .int (nI (wr)), .int (nI (fi)), .int (nI (pn)), .ref q6, .ref q7])), (r1, .inl (c1, 120, .inl s1)), (r2, .inl (c2, 124, .inl s2)), (jT, .inr (8, [.ref t0, .int (nI (kt))])), (t0, .inl (cC, 120, .inl gT))] sz)) sz) (va_Qi (fun (r : Int32) (u : (Nat → Int32) × Nat × Nat × Bool × (List Int32)) => match u with | (S1, Wr, Pn, xo, xl) => (r = kBo xo ∧ kPR (kAtomD bt kt g7 n7 (e1 + 1) pn) pn kt wr s1 xo Pn xl Wr S1 ∧ Wr ≤ 120)) (fun (u : (Nat → Int32) × Nat × Nat × Bool × (List Int32)) => match u with | (S1, Wr, Pn, xo, xl) => fun t : State => kB dC dI [(jR, .inr (4, [.ref jT, .ref r1, .ref r2, .int (nI (Wr)), .int (nI (fi)), .int (nI (Pn)), .ref q6, .ref q7])), (r1, .inl (c1, 120, .inl S1)), (r2, .inl (c2, 124, .inl s2)), (jT, .inr (8, [.ref t0, .int (nI (kt))])), (t0, .inl (cC, 120, .inl gT))] [(c1, .int), (c2, .int), (cC, .char)] (va_A [(jR, .inr (4, [.ref jT, .ref r1, .ref r2, .int (nI (wr)), .int (nI (fi)), .int (nI (pn)), .ref q6, .ref q7])), (r1, .inl (c1, 120, .inl s1)), (r2, .inl (c2, 124, .inl s2)), (jT, .inr (8, [.ref t0, .int (nI (kt))])), (t0, .inl (cC, 120, .inl gT))] sz) t) (va_A [(jR, .inr (4, [.ref jT, .ref r1, .ref r2, .int (nI (wr)), .int (nI (fi)), .int (nI (pn)), .ref q6, .ref q7])), (r1, .inl (c1, 120, .inl s1)), (r2, .inl (c2, 124, .inl s2)), (jT, .inr (8, [.ref t0, .int (nI (kt))])), (t0, .inl (cC, 120, .inl gT))] sz)) 0 0 (va_A [(jR, .inr (4, [.ref jT, .ref r1, .ref r2, .int (nI (wr)), .int (nI (fi)), .int (nI (pn)), .ref q6, .ref q7])), (r1, .inl (c1, 120, .inl s1)), (r2, .inl (c2, 124, .inl s2)), (jT, .inr (8, [.ref t0, .int (nI (kt))])), (t0, .inl (cC, 120, .inl gT))] sz) := by
  refine Met.ofW (cc := cX4_readAtom) (maxL := 4) (ret := (some .boolean)) (by decide) rfl ?_
  intro p e s m args below meth c s₁ B hml hv
  obtain ⟨rfl, hsz, hP, hK, hD0, hX⟩ := hv
  have hx := B.exec
  have hb := B.bytes
  have hr := B.returns
  have hts := atoms_spec (ws := w_s_atom4x_g) B.pre
  have hown : s.vm.findClass RX4 = some m.cls := findClass_of_methodNamed B.named
  have hlocks := B.notSynchronized
  subst hsz
  have hD := hD0.self (sz := s.heap.size)
  generalize hAe : va_A [(jR, .inr (4, [.ref jT, .ref r1, .ref r2, .int (nI (wr)), .int (nI (fi)), .int (nI (pn)), .ref q6, .ref q7])), (r1, .inl (c1, 120, .inl s1)), (r2, .inl (c2, 124, .inl s2)), (jT, .inr (8, [.ref t0, .int (nI (kt))])), (t0, .inl (cC, 120, .inl gT))] s.heap.size = A at hD hX ⊢
  have hA : ∀ q : Nat, s.heap.size ≤ q → A q := fun q h => by rw [← hAe]; exact Or.inr h
  have hS : va_S A s.heap s.heap [] := va_S.rf
  have hP : va_P (dC, dI) vwCl [(jR, .inr (4, [.ref jT, .ref r1, .ref r2, .int (nI (wr)), .int (nI (fi)), .int (nI (pn)), .ref q6, .ref q7])), (r1, .inl (c1, 120, .inl s1)), (r2, .inl (c2, 124, .inl s2)), (jT, .inr (8, [.ref t0, .int (nI (kt))])), (t0, .inl (cC, 120, .inl gT))] s.heap := hP
  have hl := lv_entry ([.ref jR, .int (nI (dd))]) (n := 4) (Nat.le_of_ble_eq_true rfl)
  rw [lg_entry_eq]
  generalize (lg_sl ([.ref jR, .int (nI (dd))]) ++ List.replicate (4 - (lg_sl ([.ref jR, .int (nI (dd))])).length) Slot.unset).toArray = ls at hl ⊢
  have hl : lv_has ls 4 [(0, .ref jR), (1, .int (nI (dd)))] := hl
  refine kQ (fun Q hQ => ?_)
  refine lv_aload_n hx hb dX4_readAtom_0 rfl (lv_at hl 0 rfl) ?_
  have hCu := kCut (wc := [(jR, .inr (4, [.ref jT, .ref r1, .ref r2, .int (nI (wr)), .int (nI (fi)), .int (nI (pn)), .ref q6, .ref q7])), (r1, .inl (c1, 120, .inl s1)), (r2, .inl (c2, 124, .inl s2)), (jT, .inr (8, [.ref t0, .int (nI (kt))])), (t0, .inl (cC, 120, .inl gT))]) hP hD hS hA [0, 1, 2, 3, 4] rfl kc_nd_311 rfl
  have hPc := hCu.1
  have hDc := hCu.2.1
  have hFc := hCu.2.2
  have hKc := hK.sb (tys2 := [(c1, .int), (c2, .int), (cC, .char)]) [0, 1, 2] rfl
  refine va_calli (va_runV (As := []) (rest := []) ⟨hx, hb, hml, hown, hts⟩ (s_look4x l dC dI jT t0 cC gT kt hkt hgT bt hbt hb8 jR r1 r2 c1 c2 s1 s2 wr fi q6 q7 hwr hfi pn hpn s.heap.size) (cwV 0 hts (kG (List.forall_mem_cons.mpr ⟨(List.mem_cons_of_mem _ (List.mem_append_left _ (List.mem_of_getElem? (i := 3) rfl))), (List.forall_mem_cons.mpr ⟨(List.mem_cons_of_mem _ (List.mem_append_left _ (List.mem_of_getElem? (i := 2) rfl))), (List.forall_mem_cons.mpr ⟨(List.mem_cons_of_mem _ (List.mem_append_left _ (List.mem_of_getElem? (i := 1) rfl))), (List.forall_mem_cons.mpr ⟨(List.mem_cons_of_mem _ (List.mem_append_left _ (List.mem_of_getElem? (i := 0) rfl))), (fun _ h => absurd h List.not_mem_nil)⟩)⟩)⟩)⟩) (kGV _ _ _ _) (fun _ h => List.mem_cons_of_mem _ (List.mem_append_right _ (List.mem_append_left _ h))) gw_s_look4x) rfl rfl rfl ⟨rfl, hd_X4_look⟩ ⟨(show 2 + 1 ≤ (6 + 6 * (e1 + 1)) from by omega), (show 8 + (2 + 11) + 60 * 2 ≤ 60 * (6 + 6 * (e1 + 1)) from by omega)⟩) (kW_V kT_blind kT_give (va_recv hKc hPc (ci := 4) (q0 := 0) rfl rfl) hPc hKc hDc) rfl rfl hl.1 rfl (lv_room (Nat.le_of_ble_eq_true rfl)) dX4_readAtom_1 ⟨(Nat.le_of_ble_eq_true rfl), (Nat.le_of_ble_eq_true rfl)⟩) hS (fun q _ h => hFc q h) hFc (fun r_1 => kU2 (fun Pn_2 ch_3 t H_4 locs ht hvm hw hB hz1 hk1 hS => ?_))
  try dsimp only at hw
  have hPD : kPD dC dI A [(jR, .inr (4, [.ref jT, .ref r1, .ref r2, .int (nI (wr)), .int (nI (fi)), .int (nI (Pn_2)), .ref q6, .ref q7])), (r1, .inl (c1, 120, .inl s1)), (r2, .inl (c2, 124, .inl s2)), (jT, .inr (8, [.ref t0, .int (nI (kt))])), (t0, .inl (cC, 120, .inl gT))] H_4 := kJoinX hP hD [0, 1, 2, 3, 4] rfl hk1 hFc hB.1 ht hB.2.2 rfl [some 0, some 1, some 2, some 3, some 4] rfl rfl
  have hP := hPD.1
  have hD := hPD.2
  obtain ⟨rfl, hw_5_0, hw_5_1, hw_5_2, hw_5_3, hw_5_4, hw_5_5, hw_5_6⟩ := hw
  refine lv_istore_n hx hb dX4_readAtom_4 rfl hl kc_l_2_4 (kTo [(2, .int (nI (ch_3))), (0, .ref jR), (1, .int (nI (dd)))]) (fun ls hl => ?_)
  refine lv_iload_n hx hb dX4_readAtom_5 rfl (lv_at hl 0 rfl) ?_
  refine lv_bipush (v := 91) hx hb dX4_readAtom_6 kc_b_91 ?_
  refine lv_icmp_ne (tgt := 44) hx hb dX4_readAtom_8 kc_t_8_36 (fun c_6 => ?_) (fun c_6 => ?_)
  · have bd_8 : ch_3 < 2147483648 := by omega
    have hn_7 := kneq (a := ch_3) (b := 91) bd_8 kc_31_91 c_6
    refine lv_iload_n hx hb dX4_readAtom_44 rfl (lv_at hl 0 rfl) ?_
    have bd_9 : ch_3 < 256 := by omega
    have hPc := hP.sb (ws2 := []) [] rfl
    have hKc := hK.sb (tys2 := []) [] rfl
    refine vp_callSi (va_runS (As := [.int (nI (ch_3))]) (rest := []) ⟨hx, hb, hml, hown, hts⟩ (s_digit4x l dC dI ch_3 bd_9) (va_cwS 1 hts (kG (List.forall_mem_cons.mpr ⟨(List.mem_cons_of_mem _ (List.mem_append_left _ (List.mem_of_getElem? (i := 5) rfl))), (List.forall_mem_cons.mpr ⟨(List.mem_cons_of_mem _ (List.mem_append_left _ (List.mem_of_getElem? (i := 4) rfl))), (List.forall_mem_cons.mpr ⟨(List.mem_cons_of_mem _ (List.mem_append_left _ (List.mem_of_getElem? (i := 0) rfl))), (fun _ h => absurd h List.not_mem_nil)⟩)⟩)⟩) (kGS _ _ _) (fun _ h => List.mem_cons_of_mem _ (List.mem_append_right _ (List.mem_append_right _ (List.mem_append_left _ h)))) gw_s_digit4x) rfl rfl rfl hd_X4_isDigit ⟨(show 1 + 1 ≤ (6 + 6 * (e1 + 1)) from by omega), (show 8 + (1 + 11) + 60 * 1 ≤ 60 * (6 + 6 * (e1 + 1)) from by omega)⟩) (kR_S kT_blind kT_give hPc hKc) rfl rfl hl.1 rfl (lv_room (Nat.le_of_ble_eq_true rfl)) dX4_readAtom_45 ⟨(Nat.le_of_ble_eq_true rfl), (Nat.le_of_ble_eq_true rfl)⟩).run (fun r_10 hw => ?_)
    have hw_11 := hw
    refine lv_if_eq (tgt := 56) hx hb dX4_readAtom_48 kc_t_48_8 (fun c_12 => ?_) (fun c_12 => ?_)
    · have hdg_13 : ¬ (48 ≤ ch_3 ∧ ch_3 ≤ 57) := fun z9 => hw_11.mpr z9 c_12
      refine lv_aload_n hx hb dX4_readAtom_56 rfl (lv_at hl 1 rfl) ?_
      refine va_get (D := (dC, dI)) (ci := 4) (v := .ref q7) (C := RX4) (T := TX4) (N := 8) hx hb hts (fun _ h => List.mem_cons_of_mem _ (List.mem_append_right _ (List.mem_append_right _ (List.mem_append_right _ (List.mem_append_left _ h))))) hown hK hP 0 rfl rfl 7 kc_l_7_8 (hts (.fieldLink RX4 34 "NotEnded$Reader" "letterSigns" "Ljava/lang/String;") (List.mem_cons_of_mem _ (List.mem_append_left _ (List.mem_of_getElem? (i := 6) rfl)))) (fun _ h9 => h9) rfl dX4_readAtom_57 ?_
      refine lv_iload_n hx hb dX4_readAtom_60 rfl (lv_at hl 0 rfl) ?_
      have hPc := hP.sb (ws2 := []) [] rfl
      have hKc := hK.sb (tys2 := []) [] rfl
      refine vp_callSi (va_runV (As := [.int (nI (ch_3))]) (rest := []) ⟨hx, hb, hml, hown, hts⟩ (s_t_ixx l dC dI q7 b7 n7 g7 hn7 A gn7 ch_3 bd_9) (cwV 1 hts (kG (List.forall_mem_cons.mpr ⟨(List.mem_cons_of_mem _ (List.mem_append_left _ (List.mem_of_getElem? (i := 10) rfl))), (List.forall_mem_cons.mpr ⟨(List.mem_cons_of_mem _ (List.mem_append_left _ (List.mem_of_getElem? (i := 9) rfl))), (List.forall_mem_cons.mpr ⟨(List.mem_cons_of_mem _ (List.mem_append_left _ (List.mem_of_getElem? (i := 8) rfl))), (List.forall_mem_cons.mpr ⟨(List.mem_cons_of_mem _ (List.mem_append_left _ (List.mem_of_getElem? (i := 7) rfl))), (fun _ h => absurd h List.not_mem_nil)⟩)⟩)⟩)⟩) (kGV _ _ _ _) (fun _ h => List.mem_cons_of_mem _ (List.mem_append_right _ (List.mem_append_right _ (List.mem_append_right _ (List.mem_append_right _ (List.mem_append_left _ h)))))) gw_s_t_ixx) rfl rfl rfl ⟨rfl, hd_J0_indexOf_0f7a4⟩ ⟨(show 4 + 1 ≤ (6 + 6 * (e1 + 1)) from by omega), (show 8 + (2 + 11) + 60 * 4 ≤ 60 * (6 + 6 * (e1 + 1)) from by omega)⟩) (kR_V kSt_blind (kSt_give hX.2 hS) (kSt_recv hX.2 hS) hPc hKc) rfl rfl hl.1 rfl (lv_room (Nat.le_of_ble_eq_true rfl)) dX4_readAtom_61 ⟨(Nat.le_of_ble_eq_true rfl), (Nat.le_of_ble_eq_true rfl)⟩).run (fun r_14 hw => ?_)
      have hw_15 := hw
      rcases hw_15 with ⟨rfl, hj_17⟩ | ⟨j_16, hj_17_1, rfl, hj_17⟩
      · refine lv_istore_n hx hb dX4_readAtom_64 rfl hl kc_l_3_4 (kTo [(3, .int (-1)), (2, .int (nI (ch_3))), (0, .ref jR), (1, .int (nI (dd)))]) (fun ls hl => ?_)
        refine lv_iload_n hx hb dX4_readAtom_65 rfl (lv_at hl 0 rfl) ?_
        refine lv_if_ge (tgt := 71) hx hb dX4_readAtom_66 kc_t_66_5 (fun c_18 => absurd c_18 (by decide)) (fun c_18 => ?_)
        refine lv_iconst (v := 0) hx hb dX4_readAtom_69 kc_i_0 ?_
        have hP9 := hP
        have hD9 := hD
        have hK9 := hK
        rw [hQ]
        exact W.zret (v := 0) hx hb hr rfl (fun t ht hW => ⟨⟨0, (s1, wr, Pn_2, false, ([])), rfl, ⟨rfl, kPR_f ((kAtomD_s e1 pn).trans (by unfold kAtomF; rw [← hw_5_0, ← hw_5_1]; rw [if_neg (by omega), if_neg (fun z9 => by have := kDg_t.mp z9; omega), if_neg (by omega)])) (by omega), by omega⟩,  by rw [ht]; exact hP9, va_K.moved hW.alike hK9, hD9⟩, hS.F ht⟩) hS.2.2 dX4_readAtom_70
      · have hlt9 : Pn_2 < kt := by rcases (show ch_3 = 0 ∨ Pn_2 < kt by assumption) with z | z; (exfalso; rw [z, hz7] at hj_17; omega); exact z
        refine lv_istore_n hx hb dX4_readAtom_64 rfl hl kc_l_3_4 (kTo [(3, .int (nI (j_16))), (2, .int (nI (ch_3))), (0, .ref jR), (1, .int (nI (dd)))]) (fun ls hl => ?_)
        refine lv_iload_n hx hb dX4_readAtom_65 rfl (lv_at hl 0 rfl) ?_
        have bd_19 : j_16 < 2147483648 := by omega
        refine lv_if_ge (tgt := 71) hx hb dX4_readAtom_66 kc_t_66_5 (fun c_20 => ?_) (fun c_20 => absurd (nI_pos' (n := j_16) bd_19) c_20)
        refine lv_aload_n hx hb dX4_readAtom_71 rfl (lv_at hl 2 rfl) ?_
        refine lv_dup hx hb dX4_readAtom_72 rfl ?_
        refine va_get (D := (dC, dI)) (ci := 4) (v := .int (nI (Pn_2))) (C := RX4) (T := TX4) (N := 8) hx hb hts (fun _ h => List.mem_cons_of_mem _ (List.mem_append_right _ (List.mem_append_right _ (List.mem_append_right _ (List.mem_append_left _ h))))) hown hK hP 0 rfl rfl 5 kc_l_5_8 (hts (.fieldLink RX4 25 "NotEnded$Reader" "place" "I") (List.mem_cons_of_mem _ (List.mem_append_left _ (List.mem_of_getElem? (i := 11) rfl)))) (fun _ h9 => h9) rfl dX4_readAtom_73 ?_
        refine lv_iconst (v := 1) hx hb dX4_readAtom_76 kc_i_1 ?_
        refine lv_iadd hx hb dX4_readAtom_77 ?_
        refine lv_topi (fun y_21 ey_21 => ?_)
        obtain rfl : y_21 = nI (Pn_2 + 1) := ey_21.trans (nI_add (Pn_2) (1))
        refine va_put (D := (dC, dI)) (ci := 4) (v := .int (nI (Pn_2 + 1))) (ty := tyX4 5) (C := RX4) (T := TX4) (N := 8) hx hb hts (fun _ h => List.mem_cons_of_mem _ (List.mem_append_right _ (List.mem_append_right _ (List.mem_append_right _ (List.mem_append_left _ h))))) tyX4 tyX4_ok nmX4 hown hK hP hD hS 0 rfl rfl 5 kc_l_5_8 (hts (.fieldLink RX4 25 "NotEnded$Reader" "place" "I") (List.mem_cons_of_mem _ (List.mem_append_left _ (List.mem_of_getElem? (i := 11) rfl)))) (fun _ h9 => h9) rfl (tyX4_ok 5 kc_l_5_8) rfl rfl (Nat.le_of_ble_eq_true rfl) dX4_readAtom_78 (fun H locs hP hD hS => ?_)
        have hPD : kPD dC dI A [(jR, .inr (4, [.ref jT, .ref r1, .ref r2, .int (nI (wr)), .int (nI (fi)), .int (nI (Pn_2 + 1)), .ref q6, .ref q7])), (r1, .inl (c1, 120, .inl s1)), (r2, .inl (c2, 124, .inl s2)), (jT, .inr (8, [.ref t0, .int (nI (kt))])), (t0, .inl (cC, 120, .inl gT))] H := ⟨hP, hD⟩
        have hP := hPD.1
        have hD := hPD.2
        refine lv_aload_n hx hb dX4_readAtom_81 rfl (lv_at hl 2 rfl) ?_
        refine lv_sipush (v := 10000) hx hb dX4_readAtom_82 kc_s_10000 ?_
        refine lv_iload_n hx hb dX4_readAtom_85 rfl (lv_at hl 0 rfl) ?_
        refine lv_iadd hx hb dX4_readAtom_86 ?_
        refine lv_topi (fun y_22 ey_22 => ?_)
        obtain rfl : y_22 = nI (10000 + j_16) := ey_22.trans (nI_add (10000) (j_16))
        have bd_23 : (Pn_2 + 1) ≤ kt := by omega
        have bd_24 : wr < 120 := by omega
        have hCu := kCut (wc := [(jR, .inr (4, [.ref jT, .ref r1, .ref r2, .int (nI (wr)), .int (nI (fi)), .int (nI (Pn_2 + 1)), .ref q6, .ref q7])), (r1, .inl (c1, 120, .inl s1)), (r2, .inl (c2, 124, .inl s2)), (jT, .inr (8, [.ref t0, .int (nI (kt))])), (t0, .inl (cC, 120, .inl gT))]) hP hD hS hA [0, 1, 2, 3, 4] rfl kc_nd_311 rfl
        have hPc := hCu.1
        have hDc := hCu.2.1
        have hFc := hCu.2.2
        have hKc := hK.sb (tys2 := [(c1, .int), (c2, .int), (cC, .char)]) [0, 1, 2] rfl
        refine va_calli (va_runV (As := [.int (nI (10000 + j_16))]) (rest := []) ⟨hx, hb, hml, hown, hts⟩ (s_write4x l dC dI jT t0 cC gT kt hkt hgT bt hbt hb8 jR r1 r2 c1 c2 s1 s2 wr fi q6 q7 hwr hfi (Pn_2 + 1) bd_23 (nI (10000 + j_16)) bd_24 H.size) (cwV 1 hts (kG (List.forall_mem_cons.mpr ⟨(List.mem_cons_of_mem _ (List.mem_append_left _ (List.mem_of_getElem? (i := 14) rfl))), (List.forall_mem_cons.mpr ⟨(List.mem_cons_of_mem _ (List.mem_append_left _ (List.mem_of_getElem? (i := 13) rfl))), (List.forall_mem_cons.mpr ⟨(List.mem_cons_of_mem _ (List.mem_append_left _ (List.mem_of_getElem? (i := 12) rfl))), (List.forall_mem_cons.mpr ⟨(List.mem_cons_of_mem _ (List.mem_append_left _ (List.mem_of_getElem? (i := 0) rfl))), (fun _ h => absurd h List.not_mem_nil)⟩)⟩)⟩)⟩) (kGV _ _ _ _) (fun _ h => List.mem_cons_of_mem _ (List.mem_append_right _ (List.mem_append_right _ (List.mem_append_right _ (List.mem_append_right _ (List.mem_append_right _ (List.mem_append_left _ h))))))) gw_s_write4x) rfl rfl rfl ⟨rfl, hd_X4_write⟩ ⟨(show 1 + 1 ≤ (6 + 6 * (e1 + 1)) from by omega), (show 8 + (2 + 11) + 60 * 1 ≤ 60 * (6 + 6 * (e1 + 1)) from by omega)⟩) (kW_V kT_blind kT_give (va_recv hKc hPc (ci := 4) (q0 := 0) rfl rfl) hPc hKc hDc) rfl rfl hl.1 rfl (lv_room (Nat.le_of_ble_eq_true rfl)) dX4_readAtom_87 ⟨(Nat.le_of_ble_eq_true rfl), (Nat.le_of_ble_eq_true rfl)⟩) hS (fun q _ h => hFc q h) hFc (fun r_25 => kU2 (fun S1_26 Wr_27 t H_28 locs ht hvm hw hB hz1 hk1 hS => ?_))
        try dsimp only at hw
        have hPD : kPD dC dI A [(jR, .inr (4, [.ref jT, .ref r1, .ref r2, .int (nI (Wr_27)), .int (nI (fi)), .int (nI (Pn_2 + 1)), .ref q6, .ref q7])), (r1, .inl (c1, 120, .inl S1_26)), (r2, .inl (c2, 124, .inl s2)), (jT, .inr (8, [.ref t0, .int (nI (kt))])), (t0, .inl (cC, 120, .inl gT))] H_28 := kJoinX hP hD [0, 1, 2, 3, 4] rfl hk1 hFc hB.1 ht hB.2.2 rfl [some 0, some 1, some 2, some 3, some 4] rfl rfl
        have hP := hPD.1
        have hD := hPD.2
        obtain ⟨rfl, hw_29⟩ := hw
        have hP9 := hP
        have hD9 := hD
        have hK9 := hK
        rw [hQ]
        exact W.zret (v := 1) hx hb hr rfl (fun t ht hW => ⟨⟨1, (S1_26, Wr_27, (Pn_2 + 1), true, ([nI (10000 + j_16)])), rfl, ⟨rfl, kPR_t (a := kAtomD bt kt g7 n7 (e1 + 1)) rfl (kAtomD_good hz7 (e1 + 1)) (by omega) ((kAtomD_s e1 pn).trans (by unfold kAtomF; rw [← hw_5_0, ← hw_5_1]; rw [if_neg (by omega), if_neg (fun z9 => by have := kDg_t.mp z9; omega), if_pos (by omega), hj_17])) (by rw [hw_29.1]; rfl) (by rw [hw_29.2]; rfl), by omega⟩,  by rw [ht]; exact hP9, va_K.moved hW.alike hK9, hD9⟩, hS.F ht⟩) hS.2.2 dX4_readAtom_90
    · have hdg_30 := hw_11.mp c_12
      refine lv_aload_n hx hb dX4_readAtom_51 rfl (lv_at hl 1 rfl) ?_
      have bd_31 : Pn_2 ≤ kt := by omega
      have bd_32 : wr ≤ Pn_2 := by omega
      have bd_33 : 48 ≤ kAt bt kt Pn_2 ∧ kAt bt kt Pn_2 ≤ 57 := by omega
      have hCu := kCut (wc := [(jR, .inr (4, [.ref jT, .ref r1, .ref r2, .int (nI (wr)), .int (nI (fi)), .int (nI (Pn_2)), .ref q6, .ref q7])), (r1, .inl (c1, 120, .inl s1)), (r2, .inl (c2, 124, .inl s2)), (jT, .inr (8, [.ref t0, .int (nI (kt))])), (t0, .inl (cC, 120, .inl gT))]) hP hD hS hA [0, 1, 2, 3, 4] rfl kc_nd_311 rfl
      have hPc := hCu.1
      have hDc := hCu.2.1
      have hFc := hCu.2.2
      have hKc := hK.sb (tys2 := [(c1, .int), (c2, .int), (cC, .char)]) [0, 1, 2] rfl
      refine va_calli (va_runV (As := []) (rest := []) ⟨hx, hb, hml, hown, hts⟩ (s_number4x l dC dI jT t0 cC gT kt hkt hgT bt hbt hb8 jR r1 r2 c1 c2 s1 s2 wr fi q6 q7 hwr hfi Pn_2 bd_31 bd_32 bd_33 H_4.size) (cwV 0 hts (kG (List.forall_mem_cons.mpr ⟨(List.mem_cons_of_mem _ (List.mem_append_left _ (List.mem_of_getElem? (i := 17) rfl))), (List.forall_mem_cons.mpr ⟨(List.mem_cons_of_mem _ (List.mem_append_left _ (List.mem_of_getElem? (i := 16) rfl))), (List.forall_mem_cons.mpr ⟨(List.mem_cons_of_mem _ (List.mem_append_left _ (List.mem_of_getElem? (i := 15) rfl))), (List.forall_mem_cons.mpr ⟨(List.mem_cons_of_mem _ (List.mem_append_left _ (List.mem_of_getElem? (i := 0) rfl))), (fun _ h => absurd h List.not_mem_nil)⟩)⟩)⟩)⟩) (kGV _ _ _ _) (fun _ h => List.mem_cons_of_mem _ (List.mem_append_right _ (List.mem_append_right _ (List.mem_append_right _ (List.mem_append_right _ (List.mem_append_right _ (List.mem_append_right _ (List.mem_append_left _ h)))))))) gw_s_number4x) rfl rfl rfl ⟨rfl, hd_X4_readNumber⟩ ⟨(show 3 + 1 ≤ (6 + 6 * (e1 + 1)) from by omega), (show 8 + (3 + 11) + 60 * 3 ≤ 60 * (6 + 6 * (e1 + 1)) from by omega)⟩) (kW_V kT_blind kT_give (va_recv hKc hPc (ci := 4) (q0 := 0) rfl rfl) hPc hKc hDc) rfl rfl hl.1 rfl (lv_room (Nat.le_of_ble_eq_true rfl)) dX4_readAtom_52 ⟨(Nat.le_of_ble_eq_true rfl), (Nat.le_of_ble_eq_true rfl)⟩) hS (fun q _ h => hFc q h) hFc (fun r_34 => kU5 (fun S1_35 Wr_36 Pn_37 xo_38 xl_39 t H_40 locs ht hvm hw hB hz1 hk1 hS => ?_))
      try dsimp only at hw
      have hPD : kPD dC dI A [(jR, .inr (4, [.ref jT, .ref r1, .ref r2, .int (nI (Wr_36)), .int (nI (fi)), .int (nI (Pn_37)), .ref q6, .ref q7])), (r1, .inl (c1, 120, .inl S1_35)), (r2, .inl (c2, 124, .inl s2)), (jT, .inr (8, [.ref t0, .int (nI (kt))])), (t0, .inl (cC, 120, .inl gT))] H_40 := kJoinX hP hD [0, 1, 2, 3, 4] rfl hk1 hFc hB.1 ht hB.2.2 rfl [some 0, some 1, some 2, some 3, some 4] rfl rfl
      have hP := hPD.1
      have hD := hPD.2
      have hw_41 := hw
      have hP9 := hP
      have hD9 := hD
      have hK9 := hK
      rw [hQ]
      exact W.zret (v := r_34) hx hb hr (by rw [hw_41.1]; exact kBo_nar _) (fun t ht hW => ⟨⟨r_34, (S1_35, Wr_36, Pn_37, xo_38, xl_39), rfl, ⟨hw_41.1, kPR_up ((kAtomD_s e1 pn).trans (by unfold kAtomF; rw [← hw_5_0, ← hw_5_1]; rw [if_neg (by omega), if_pos (kDg_t.mpr (by omega))])) hw_41.2.1 (by omega), hw_41.2.2⟩,  by rw [ht]; exact hP9, va_K.moved hW.alike hK9, hD9⟩, hS.F ht⟩) hS.2.2 dX4_readAtom_55
  · have bd_43 : ch_3 < 2147483648 := by omega
    have hn_42 := keq (a := ch_3) (b := 91) bd_43 kc_31_91 c_6
    refine lv_aload_n hx hb dX4_readAtom_11 rfl (lv_at hl 1 rfl) ?_
    refine lv_iload_n hx hb dX4_readAtom_12 rfl (lv_at hl 2 rfl) ?_
    have bd_44 : Pn_2 ≤ kt := by omega
    have bd_45 : Pn_2 < kt := by omega
    have bd_46 : dd < 6 := by omega
    have hCu := kCut (wc := [(jR, .inr (4, [.ref jT, .ref r1, .ref r2, .int (nI (wr)), .int (nI (fi)), .int (nI (Pn_2)), .ref q6, .ref q7])), (r1, .inl (c1, 120, .inl s1)), (r2, .inl (c2, 124, .inl s2)), (jT, .inr (8, [.ref t0, .int (nI (kt))])), (t0, .inl (cC, 120, .inl gT))]) hP hD hS hA [0, 1, 2, 3, 4] rfl kc_nd_311 rfl
    have hPc := hCu.1
    have hDc := hCu.2.1
    have hFc := hCu.2.2
    have hKc := hK.sb (tys2 := [(c1, .int), (c2, .int), (cC, .char)]) [0, 1, 2] rfl
    refine va_calli (va_runV (As := [.int (nI (dd))]) (rest := []) ⟨hx, hb, hml, hown, hts⟩ (s_opens4_g l dC dI jT t0 cC gT kt hkt hgT bt hbt hb8 jR r1 r2 c1 c2 s1 s2 wr fi q6 q7 hwr hfi Pn_2 bd_44 bd_45 dd bd_46 H_4.size) (cwV 1 hts (kG (List.forall_mem_cons.mpr ⟨(List.mem_cons_of_mem _ (List.mem_append_left _ (List.mem_of_getElem? (i := 20) rfl))), (List.forall_mem_cons.mpr ⟨(List.mem_cons_of_mem _ (List.mem_append_left _ (List.mem_of_getElem? (i := 19) rfl))), (List.forall_mem_cons.mpr ⟨(List.mem_cons_of_mem _ (List.mem_append_left _ (List.mem_of_getElem? (i := 18) rfl))), (List.forall_mem_cons.mpr ⟨(List.mem_cons_of_mem _ (List.mem_append_left _ (List.mem_of_getElem? (i := 0) rfl))), (fun _ h => absurd h List.not_mem_nil)⟩)⟩)⟩)⟩) (kGV _ _ _ _) (fun _ h => List.mem_cons_of_mem _ (List.mem_append_right _ (List.mem_append_right _ (List.mem_append_right _ (List.mem_append_right _ (List.mem_append_right _ (List.mem_append_right _ (List.mem_append_right _ (List.mem_append_right _ (List.mem_append_right _ (List.mem_append_left _ h))))))))))) gw_s_opens4_g) rfl rfl rfl ⟨rfl, hd_X4_opens⟩ ⟨(show 1 + 1 ≤ (6 + 6 * (e1 + 1)) from by omega), (show 8 + (2 + 11) + 60 * 1 ≤ 60 * (6 + 6 * (e1 + 1)) from by omega)⟩) (kW_V kT_blind kT_give (va_recv hKc hPc (ci := 4) (q0 := 0) rfl rfl) hPc hKc hDc) rfl rfl hl.1 rfl (lv_room (Nat.le_of_ble_eq_true rfl)) dX4_readAtom_13 ⟨(Nat.le_of_ble_eq_true rfl), (Nat.le_of_ble_eq_true rfl)⟩) hS (fun q _ h => hFc q h) hFc (fun r_47 Pn_48 t H_49 locs ht hvm hw hB hz1 hk1 hS => ?_)
    try dsimp only at hw
    have hPD : kPD dC dI A [(jR, .inr (4, [.ref jT, .ref r1, .ref r2, .int (nI (wr)), .int (nI (fi)), .int (nI (Pn_48)), .ref q6, .ref q7])), (r1, .inl (c1, 120, .inl s1)), (r2, .inl (c2, 124, .inl s2)), (jT, .inr (8, [.ref t0, .int (nI (kt))])), (t0, .inl (cC, 120, .inl gT))] H_49 := kJoinX hP hD [0, 1, 2, 3, 4] rfl hk1 hFc hB.1 ht hB.2.2 rfl [some 0, some 1, some 2, some 3, some 4] rfl rfl
    have hP := hPD.1
    have hD := hPD.2
    obtain ⟨rfl, hw_50⟩ := hw
    subst hw_50
    refine lv_if_eq (tgt := 42) hx hb dX4_readAtom_16 kc_t_16_26 (fun c_51 => absurd c_51 (by decide)) (fun c_51 => ?_)
    refine lv_aload_n hx hb dX4_readAtom_19 rfl (lv_at hl 1 rfl) ?_
    refine lv_iload_n hx hb dX4_readAtom_20 rfl (lv_at hl 2 rfl) ?_
    refine lv_iconst (v := 1) hx hb dX4_readAtom_21 kc_i_1 ?_
    refine lv_iadd hx hb dX4_readAtom_22 ?_
    refine lv_topi (fun y_52 ey_52 => ?_)
    obtain rfl : y_52 = nI (dd + 1) := ey_52.trans (nI_add (dd) (1))
    have bd_53 : (Pn_2 + 1) ≤ kt := by omega
    have bd_54 : wr ≤ (Pn_2 + 1) := by omega
    have bd_55 : (dd + 1) + e1 = 6 := by omega
    have hCu := kCut (wc := [(jR, .inr (4, [.ref jT, .ref r1, .ref r2, .int (nI (wr)), .int (nI (fi)), .int (nI ((Pn_2 + 1))), .ref q6, .ref q7])), (r1, .inl (c1, 120, .inl s1)), (r2, .inl (c2, 124, .inl s2)), (jT, .inr (8, [.ref t0, .int (nI (kt))])), (t0, .inl (cC, 120, .inl gT))]) hP hD hS hA [0, 1, 2, 3, 4] rfl kc_nd_311 rfl
    have hPc := hCu.1
    have hDc := hCu.2.1
    have hFc := hCu.2.2
    have hKc := hK.sb (tys2 := [(c1, .int), (c2, .int), (cC, .char)]) [0, 1, 2] rfl
    refine va_calli (va_runV (As := [.int (nI (dd + 1))]) (rest := []) ⟨hx, hb, hml, hown, hts⟩ (ih.1 l dC dI jT t0 cC gT kt hkt hgT bt hbt hb8 jR r1 r2 c1 c2 s1 s2 wr fi q6 q7 hwr hfi (Pn_2 + 1) bd_53 bd_54 b6 n6 g6 hn6 b7 n7 g7 hn7 gn6 hz6 gn7 hz7 (dd + 1) bd_55 H_49.size) (cwV 1 hts (kG (List.forall_mem_cons.mpr ⟨(List.mem_cons_of_mem _ (List.mem_append_left _ (List.mem_of_getElem? (i := 32) rfl))), (List.forall_mem_cons.mpr ⟨(List.mem_cons_of_mem _ (List.mem_append_left _ (List.mem_of_getElem? (i := 31) rfl))), (List.forall_mem_cons.mpr ⟨(List.mem_cons_of_mem _ (List.mem_append_left _ (List.mem_of_getElem? (i := 30) rfl))), (List.forall_mem_cons.mpr ⟨(List.mem_cons_of_mem _ (List.mem_append_left _ (List.mem_of_getElem? (i := 0) rfl))), (fun _ h => absurd h List.not_mem_nil)⟩)⟩)⟩)⟩) (kGV _ _ _ _) (kFam (List.mem_cons_of_mem _ (List.mem_append_left _ (List.mem_of_getElem? (i := 29) rfl)))) gw_s_sum4x_I) rfl rfl rfl ⟨rfl, hd_X4_readSum⟩ ⟨(show (8 + 6 * e1) + 1 ≤ (6 + 6 * (e1 + 1)) from by omega), (show 8 + (4 + 11) + 60 * (8 + 6 * e1) ≤ 60 * (6 + 6 * (e1 + 1)) from by omega)⟩) (kW_V kS2_blind (kS2_give hX hS hFc) (va_recv hKc hPc (ci := 4) (q0 := 0) rfl rfl) hPc hKc hDc) rfl rfl hl.1 rfl (lv_room (Nat.le_of_ble_eq_true rfl)) dX4_readAtom_23 ⟨(Nat.le_of_ble_eq_true rfl), (Nat.le_of_ble_eq_true rfl)⟩) hS (fun q _ h => hFc q h) hFc (fun r_56 => kU5 (fun S1_57 Wr_58 Pn_59 xo_60 xl_61 t H_62 locs ht hvm hw hB hz1 hk1 hS => ?_))
    try dsimp only at hw
    have hPD : kPD dC dI A [(jR, .inr (4, [.ref jT, .ref r1, .ref r2, .int (nI (Wr_58)), .int (nI (fi)), .int (nI (Pn_59)), .ref q6, .ref q7])), (r1, .inl (c1, 120, .inl S1_57)), (r2, .inl (c2, 124, .inl s2)), (jT, .inr (8, [.ref t0, .int (nI (kt))])), (t0, .inl (cC, 120, .inl gT))] H_62 := kJoinX hP hD [0, 1, 2, 3, 4] rfl hk1 hFc hB.1 ht hB.2.2 rfl [some 0, some 1, some 2, some 3, some 4] rfl rfl
    have hP := hPD.1
    have hD := hPD.2
    have hw_63 := hw
    refine lv_if_eq (tgt := 42) hx hb dX4_readAtom_26 kc_t_26_16 (fun c_64 => ?_) (fun c_64 => ?_)
    · obtain rfl : xo_60 = false := kBo_f (kZr9 hw_63.1 c_64)
      have hw_63_k := hw_63.2.1.2.1
      refine lv_iconst (v := 0) hx hb dX4_readAtom_42 kc_i_0 ?_
      have hP9 := hP
      have hD9 := hD
      have hK9 := hK
      rw [hQ]
      exact W.zret (v := 0) hx hb hr rfl (fun t ht hW => ⟨⟨0, (S1_57, Wr_58, Pn_59, false, ([])), rfl, ⟨rfl, kPR_f ((kAtomD_s e1 pn).trans (by unfold kAtomF; rw [← hw_5_0, ← hw_5_1]; rw [if_pos (by omega), if_pos rfl, hw_63.2.1.1]; rfl)) (by omega), by omega⟩,  by rw [ht]; exact hP9, va_K.moved hW.alike hK9, hD9⟩, hS.F ht⟩) hS.2.2 dX4_readAtom_43
    · obtain rfl : xo_60 = true := kBo_t (kNz9 hw_63.1 c_64)
      obtain ⟨hw_63_W, hw_63_S, hw_63_l, hw_63_p⟩ := hw_63.2.1.2.2 rfl
      have hw_63_k := hw_63.2.1.2.1
      refine lv_aload_n hx hb dX4_readAtom_29 rfl (lv_at hl 1 rfl) ?_
      refine lv_bipush (v := 93) hx hb dX4_readAtom_30 kc_b_93 ?_
      have bd_65 : Wr_58 ≤ 120 := by omega
      have bd_66 : Pn_59 ≤ kt := by omega
      have hCu := kCut (wc := [(jR, .inr (4, [.ref jT, .ref r1, .ref r2, .int (nI (Wr_58)), .int (nI (fi)), .int (nI (Pn_59)), .ref q6, .ref q7])), (r1, .inl (c1, 120, .inl S1_57)), (r2, .inl (c2, 124, .inl s2)), (jT, .inr (8, [.ref t0, .int (nI (kt))])), (t0, .inl (cC, 120, .inl gT))]) hP hD hS hA [0, 1, 2, 3, 4] rfl kc_nd_311 rfl
      have hPc := hCu.1
      have hDc := hCu.2.1
      have hFc := hCu.2.2
      have hKc := hK.sb (tys2 := [(c1, .int), (c2, .int), (cC, .char)]) [0, 1, 2] rfl
      refine va_calli (va_runV (As := [.int 93]) (rest := []) ⟨hx, hb, hml, hown, hts⟩ (s_take4_93 l dC dI jT t0 cC gT kt hkt hgT bt hbt hb8 jR r1 r2 c1 c2 S1_57 s2 Wr_58 fi q6 q7 bd_65 hfi Pn_59 bd_66 H_62.size) (cwV 1 hts (kG (List.forall_mem_cons.mpr ⟨(List.mem_cons_of_mem _ (List.mem_append_left _ (List.mem_of_getElem? (i := 45) rfl))), (List.forall_mem_cons.mpr ⟨(List.mem_cons_of_mem _ (List.mem_append_left _ (List.mem_of_getElem? (i := 44) rfl))), (List.forall_mem_cons.mpr ⟨(List.mem_cons_of_mem _ (List.mem_append_left _ (List.mem_of_getElem? (i := 43) rfl))), (List.forall_mem_cons.mpr ⟨(List.mem_cons_of_mem _ (List.mem_append_left _ (List.mem_of_getElem? (i := 0) rfl))), (fun _ h => absurd h List.not_mem_nil)⟩)⟩)⟩)⟩) (kGV _ _ _ _) (fun _ h => List.mem_cons_of_mem _ (List.mem_append_right _ (List.mem_append_right _ (List.mem_append_right _ (List.mem_append_right _ (List.mem_append_right _ (List.mem_append_right _ (List.mem_append_right _ (List.mem_append_right _ (List.mem_append_right _ (List.mem_append_right _ (List.mem_append_left _ h)))))))))))) gw_s_take4_93) rfl rfl rfl ⟨rfl, hd_X4_take⟩ ⟨(show 3 + 1 ≤ (6 + 6 * (e1 + 1)) from by omega), (show 8 + (2 + 11) + 60 * 3 ≤ 60 * (6 + 6 * (e1 + 1)) from by omega)⟩) (kW_V kT_blind kT_give (va_recv hKc hPc (ci := 4) (q0 := 0) rfl rfl) hPc hKc hDc) rfl rfl hl.1 rfl (lv_room (Nat.le_of_ble_eq_true rfl)) dX4_readAtom_32 ⟨(Nat.le_of_ble_eq_true rfl), (Nat.le_of_ble_eq_true rfl)⟩) hS (fun q _ h => hFc q h) hFc (fun r_67 => kU2 (fun Pn_68 xo_69 t H_70 locs ht hvm hw hB hz1 hk1 hS => ?_))
      try dsimp only at hw
      have hPD : kPD dC dI A [(jR, .inr (4, [.ref jT, .ref r1, .ref r2, .int (nI (Wr_58)), .int (nI (fi)), .int (nI (Pn_68)), .ref q6, .ref q7])), (r1, .inl (c1, 120, .inl S1_57)), (r2, .inl (c2, 124, .inl s2)), (jT, .inr (8, [.ref t0, .int (nI (kt))])), (t0, .inl (cC, 120, .inl gT))] H_70 := kJoinX hP hD [0, 1, 2, 3, 4] rfl hk1 hFc hB.1 ht hB.2.2 rfl [some 0, some 1, some 2, some 3, some 4] rfl rfl
      have hP := hPD.1
      have hD := hPD.2
      have hw_71 := hw
      refine lv_if_eq (tgt := 42) hx hb dX4_readAtom_35 kc_t_35_7 (fun c_72 => ?_) (fun c_72 => ?_)
      · obtain rfl : xo_69 = false := kBo_f (kZr9 hw_71.1 c_72)
        have hw_71_k := hw_71.2.2.2.1
        refine lv_iconst (v := 0) hx hb dX4_readAtom_42 kc_i_0 ?_
        have hP9 := hP
        have hD9 := hD
        have hK9 := hK
        rw [hQ]
        exact W.zret (v := 0) hx hb hr rfl (fun t ht hW => ⟨⟨0, (S1_57, Wr_58, Pn_68, false, ([])), rfl, ⟨rfl, kPR_f ((kAtomD_s e1 pn).trans (by unfold kAtomF; rw [← hw_5_0, ← hw_5_1]; rw [if_pos (by omega), if_pos rfl, hw_63.2.1.1, kTh_t]; exact kTk_n _ hw_71.2.1)) (by omega), by omega⟩,  by rw [ht]; exact hP9, va_K.moved hW.alike hK9, hD9⟩, hS.F ht⟩) hS.2.2 dX4_readAtom_43
      · obtain rfl : xo_69 = true := kBo_t (kNz9 hw_71.1 c_72)
        have hw_71_p := hw_71.2.2.2.2 rfl
        have hw_71_k := hw_71.2.2.2.1
        refine lv_iconst (v := 1) hx hb dX4_readAtom_38 kc_i_1 ?_
        refine lv_goto (tgt := 43) hx hb dX4_readAtom_39 kc_t_39_4 ?_
        have hP9 := hP
        have hD9 := hD
        have hK9 := hK
        rw [hQ]
        exact W.zret (v := 1) hx hb hr rfl (fun t ht hW => ⟨⟨1, (S1_57, Wr_58, Pn_68, true, xl_61), rfl, ⟨rfl, kPR_t (a := kAtomD bt kt g7 n7 (e1 + 1)) rfl (kAtomD_good hz7 (e1 + 1)) (by omega) ((kAtomD_s e1 pn).trans (by unfold kAtomF; rw [← hw_5_0, ← hw_5_1]; rw [if_pos (by omega), if_pos rfl, hw_63.2.1.1, kTh_t]; exact kTk_l _ hw_71.2.1)) hw_63_W hw_63_S, by omega⟩,  by rw [ht]; exact hP9, va_K.moved hW.alike hK9, hD9⟩, hS.F ht⟩) hS.2.2 dX4_readAtom_43

def w_s_term4x_g : List Cond := .code yX4_readTerm cX4_readTerm 4 (some .boolean) :: wf_rq
theorem gw_s_term4x_g : (w_s_term4x_g).all goodWord = true := kFamG rfl gf_rq
set_option maxHeartbeats 4000000 in
set_option maxRecDepth 100000 in
theorem s_term4x_g (l : Launch) (dC : Nat → ClassId) (dI : Nat → Nat → Nat) (jT : Nat) (t0 : Nat) (cC : ClassId) (gT : Nat → Int32) (kt : Nat) (hkt : kt ≤ 120) (hgT : ∀ j : Nat, narrow .char (.int (gT j)) = .int (gT j)) (bt : Nat → Nat) (hbt : ∀ j : Nat, gT j = nI (bt j)) (hb8 : ∀ j : Nat, bt j < 256) (jR : Nat) (r1 : Nat) (r2 : Nat) (c1 : ClassId) (c2 : ClassId) (s1 : Nat → Int32) (s2 : Nat → Int32) (wr : Nat) (fi : Nat) (q6 : Nat) (q7 : Nat) (hwr : wr ≤ 120) (hfi : fi ≤ 124) (pn : Nat) (hpn : pn ≤ kt) (hwp : wr ≤ pn) (b6 : Nat) (n6 : Nat) (g6 : Nat → Int32) (hn6 : n6 ≤ 8) (b7 : Nat) (n7 : Nat) (g7 : Nat → Int32) (hn7 : n7 ≤ 8) (gn6 : ∀ k : Nat, ∃ v : Nat, v < 128 ∧ g6 k = nI v) (hz6 : kIx g6 n6 (nI 0) = n6) (gn7 : ∀ k : Nat, ∃ v : Nat, v < 128 ∧ g7 k = nI v) (hz7 : kIx g7 n7 (nI 0) = n7) (e1 : Nat) (dd : Nat) (hdd : dd + e1 = 5) (ih : kIHq e1) (sz : Nat) : Met l yX4_readTerm w_s_term4x_g ({ frames := (7 + 6 * (e1 + 1)), cells := 0, slots := 0, locals := 60 * (7 + 6 * (e1 + 1)) }) (kW dC dI [.ref jR, .int (nI (dd))] [(jR, .inr (4, [.ref jT, .ref r1, .ref r2, .int (nI (wr)), .int (nI (fi)), .int (nI (pn)), .ref q6, .ref q7])), (r1, .inl (c1, 120, .inl s1)), (r2, .inl (c2, 124, .inl s2)), (jT, .inr (8, [.ref t0, .int (nI (kt))])), (t0, .inl (cC, 120, .inl gT))] [(c1, .int), (c2, .int), (cC, .char)] (kS2 q6 b6 n6 g6 q7 b7 n7 g7 (va_A [(jR, .inr (4, [.ref jT, .ref r1, .ref r2, .int (nI (wr)), .int (nI (fi)), .int (nI (pn)), .ref q6, .ref q7])), (r1, .inl (c1, 120, .inl s1)), (r2, .inl (c2, 124, .inl s2)), (jT, .inr (8, [.ref t0, .int (nI (kt))])), (t0, .inl (cC, 120, .inl gT))] sz)) sz) (va_Qi (fun (r : Int32) (u : (Nat → Int32) × Nat × Nat × Bool × (List Int32)) => match u with | (S1, Wr, Pn, xo, xl) => (r = kBo xo ∧ kPR (kTermD bt kt g7 n7 (e1 + 1) pn) pn kt wr s1 xo Pn xl Wr S1 ∧ Wr ≤ 120)) (fun (u : (Nat → Int32) × Nat × Nat × Bool × (List Int32)) => match u with | (S1, Wr, Pn, xo, xl) => fun t : State => kB dC dI [(jR, .inr (4, [.ref jT, .ref r1, .ref r2, .int (nI (Wr)), .int (nI (fi)), .int (nI (Pn)), .ref q6, .ref q7])), (r1, .inl (c1, 120, .inl S1)), (r2, .inl (c2, 124, .inl s2)), (jT, .inr (8, [.ref t0, .int (nI (kt))])), (t0, .inl (cC, 120, .inl gT))] [(c1, .int), (c2, .int), (cC, .char)] (va_A [(jR, .inr (4, [.ref jT, .ref r1, .ref r2, .int (nI (wr)), .int (nI (fi)), .int (nI (pn)), .ref q6, .ref q7])), (r1, .inl (c1, 120, .inl s1)), (r2, .inl (c2, 124, .inl s2)), (jT, .inr (8, [.ref t0, .int (nI (kt))])), (t0, .inl (cC, 120, .inl gT))] sz) t) (va_A [(jR, .inr (4, [.ref jT, .ref r1, .ref r2, .int (nI (wr)), .int (nI (fi)), .int (nI (pn)), .ref q6, .ref q7])), (r1, .inl (c1, 120, .inl s1)), (r2, .inl (c2, 124, .inl s2)), (jT, .inr (8, [.ref t0, .int (nI (kt))])), (t0, .inl (cC, 120, .inl gT))] sz)) 0 0 (va_A [(jR, .inr (4, [.ref jT, .ref r1, .ref r2, .int (nI (wr)), .int (nI (fi)), .int (nI (pn)), .ref q6, .ref q7])), (r1, .inl (c1, 120, .inl s1)), (r2, .inl (c2, 124, .inl s2)), (jT, .inr (8, [.ref t0, .int (nI (kt))])), (t0, .inl (cC, 120, .inl gT))] sz) := by
  refine Met.ofW (cc := cX4_readTerm) (maxL := 4) (ret := (some .boolean)) (by decide) rfl ?_
  intro p e s m args below meth c s₁ B hml hv
  obtain ⟨rfl, hsz, hP, hK, hD0, hX⟩ := hv
  have hx := B.exec
  have hb := B.bytes
  have hr := B.returns
  have hts := atoms_spec (ws := w_s_term4x_g) B.pre
  have hown : s.vm.findClass RX4 = some m.cls := findClass_of_methodNamed B.named
  have hlocks := B.notSynchronized
  subst hsz
  have hD := hD0.self (sz := s.heap.size)
  generalize hAe : va_A [(jR, .inr (4, [.ref jT, .ref r1, .ref r2, .int (nI (wr)), .int (nI (fi)), .int (nI (pn)), .ref q6, .ref q7])), (r1, .inl (c1, 120, .inl s1)), (r2, .inl (c2, 124, .inl s2)), (jT, .inr (8, [.ref t0, .int (nI (kt))])), (t0, .inl (cC, 120, .inl gT))] s.heap.size = A at hD hX ⊢
  have hA : ∀ q : Nat, s.heap.size ≤ q → A q := fun q h => by rw [← hAe]; exact Or.inr h
  have hS : va_S A s.heap s.heap [] := va_S.rf
  have hP : va_P (dC, dI) vwCl [(jR, .inr (4, [.ref jT, .ref r1, .ref r2, .int (nI (wr)), .int (nI (fi)), .int (nI (pn)), .ref q6, .ref q7])), (r1, .inl (c1, 120, .inl s1)), (r2, .inl (c2, 124, .inl s2)), (jT, .inr (8, [.ref t0, .int (nI (kt))])), (t0, .inl (cC, 120, .inl gT))] s.heap := hP
  have hl := lv_entry ([.ref jR, .int (nI (dd))]) (n := 4) (Nat.le_of_ble_eq_true rfl)
  rw [lg_entry_eq]
  generalize (lg_sl ([.ref jR, .int (nI (dd))]) ++ List.replicate (4 - (lg_sl ([.ref jR, .int (nI (dd))])).length) Slot.unset).toArray = ls at hl ⊢
  have hl : lv_has ls 4 [(0, .ref jR), (1, .int (nI (dd)))] := hl
  refine kQ (fun Q hQ => ?_)
  refine lv_aload_n hx hb dX4_readTerm_0 rfl (lv_at hl 0 rfl) ?_
  refine lv_iload_n hx hb dX4_readTerm_1 rfl (lv_at hl 1 rfl) ?_
  have bd_1 : dd + e1 = 5 := by omega
  have hCu := kCut (wc := [(jR, .inr (4, [.ref jT, .ref r1, .ref r2, .int (nI (wr)), .int (nI (fi)), .int (nI (pn)), .ref q6, .ref q7])), (r1, .inl (c1, 120, .inl s1)), (r2, .inl (c2, 124, .inl s2)), (jT, .inr (8, [.ref t0, .int (nI (kt))])), (t0, .inl (cC, 120, .inl gT))]) hP hD hS hA [0, 1, 2, 3, 4] rfl kc_nd_311 rfl
  have hPc := hCu.1
  have hDc := hCu.2.1
  have hFc := hCu.2.2
  have hKc := hK.sb (tys2 := [(c1, .int), (c2, .int), (cC, .char)]) [0, 1, 2] rfl
  refine va_calli (va_runV (As := [.int (nI (dd))]) (rest := []) ⟨hx, hb, hml, hown, hts⟩ (s_atom4x_g l dC dI jT t0 cC gT kt hkt hgT bt hbt hb8 jR r1 r2 c1 c2 s1 s2 wr fi q6 q7 hwr hfi pn hpn hwp b6 n6 g6 hn6 b7 n7 g7 hn7 gn6 hz6 gn7 hz7 e1 dd bd_1 ih s.heap.size) (cwV 1 hts (kG (List.forall_mem_cons.mpr ⟨(List.mem_cons_of_mem _ (List.mem_append_left _ (List.mem_of_getElem? (i := 24) rfl))), (List.forall_mem_cons.mpr ⟨(List.mem_cons_of_mem _ (List.mem_append_left _ (List.mem_of_getElem? (i := 23) rfl))), (List.forall_mem_cons.mpr ⟨(List.mem_cons_of_mem _ (List.mem_append_left _ (List.mem_of_getElem? (i := 22) rfl))), (List.forall_mem_cons.mpr ⟨(List.mem_cons_of_mem _ (List.mem_append_left _ (List.mem_of_getElem? (i := 0) rfl))), (fun _ h => absurd h List.not_mem_nil)⟩)⟩)⟩)⟩) (kGV _ _ _ _) (kFam (List.mem_cons_of_mem _ (List.mem_append_left _ (List.mem_of_getElem? (i := 21) rfl)))) gw_s_atom4x_g) rfl rfl rfl ⟨rfl, hd_X4_readAtom⟩ ⟨(show (6 + 6 * (e1 + 1)) + 1 ≤ (7 + 6 * (e1 + 1)) from by omega), (show 8 + (4 + 11) + 60 * (6 + 6 * (e1 + 1)) ≤ 60 * (7 + 6 * (e1 + 1)) from by omega)⟩) (kW_V kS2_blind (kS2_give hX hS hFc) (va_recv hKc hPc (ci := 4) (q0 := 0) rfl rfl) hPc hKc hDc) rfl rfl hl.1 rfl (lv_room (Nat.le_of_ble_eq_true rfl)) dX4_readTerm_2 ⟨(Nat.le_of_ble_eq_true rfl), (Nat.le_of_ble_eq_true rfl)⟩) hS (fun q _ h => hFc q h) hFc (fun r_2 => kU5 (fun S1_3 Wr_4 Pn_5 xo_6 xl_7 t H_8 locs ht hvm hw hB hz1 hk1 hS => ?_))
  try dsimp only at hw
  have hPD : kPD dC dI A [(jR, .inr (4, [.ref jT, .ref r1, .ref r2, .int (nI (Wr_4)), .int (nI (fi)), .int (nI (Pn_5)), .ref q6, .ref q7])), (r1, .inl (c1, 120, .inl S1_3)), (r2, .inl (c2, 124, .inl s2)), (jT, .inr (8, [.ref t0, .int (nI (kt))])), (t0, .inl (cC, 120, .inl gT))] H_8 := kJoinX hP hD [0, 1, 2, 3, 4] rfl hk1 hFc hB.1 ht hB.2.2 rfl [some 0, some 1, some 2, some 3, some 4] rfl rfl
  have hP := hPD.1
  have hD := hPD.2
  have hw_9 := hw
  refine lv_if_ne (tgt := 10) hx hb dX4_readTerm_5 kc_t_5_5 (fun c_10 => ?_) (fun c_10 => ?_)
  · obtain rfl : xo_6 = true := kBo_t (kNz9 hw_9.1 c_10)
    obtain ⟨hw_9_W, hw_9_S, hw_9_l, hw_9_p⟩ := hw_9.2.1.2.2 rfl
    have hw_9_k := hw_9.2.1.2.1
    refine lv_iconst (v := 0) hx hb dX4_readTerm_10 kc_i_0 ?_
    refine lv_istore_n hx hb dX4_readTerm_11 rfl hl kc_l_2_4 (kTo [(2, .int 0), (0, .ref jR), (1, .int (nI (dd)))]) (fun ls hl => ?_)
    have lp_k_11 : ∀ (n9 : Nat) (i : Nat) (xs1 : Nat → Int32) (xpn : Nat) (xwr : Nat) (xl : List Int32) (ivk_11_0 : i ≤ 120) (ivk_11_1 : xwr ≤ 120) (ivk_11_2 : xpn ≤ kt) (ivk_11_3 : kLoop bt kt 42 47 (kAtomD bt kt g7 n7 (e1 + 1)) (120 - i) xpn xl = kTermD bt kt g7 n7 (e1 + 1) pn) (ivk_11_4 : xwr = wr + xl.length) (ivk_11_5 : xs1 = kWrt s1 wr xl) (ivk_11_6 : pn + xl.length ≤ xpn) (ivk_11_7 : pn < xpn) (H : Heap) (locs : List Loc) (_ : va_P (dC, dI) vwCl [(jR, .inr (4, [.ref jT, .ref r1, .ref r2, .int (nI (xwr)), .int (nI (fi)), .int (nI (xpn)), .ref q6, .ref q7])), (r1, .inl (c1, 120, .inl xs1)), (r2, .inl (c2, 124, .inl s2)), (jT, .inr (8, [.ref t0, .int (nI (kt))])), (t0, .inl (cC, 120, .inl gT))] H) (_ : va_D A [(jR, .inr (4, [.ref jT, .ref r1, .ref r2, .int (nI (xwr)), .int (nI (fi)), .int (nI (xpn)), .ref q6, .ref q7])), (r1, .inl (c1, 120, .inl xs1)), (r2, .inl (c2, 124, .inl s2)), (jT, .inr (8, [.ref t0, .int (nI (kt))])), (t0, .inl (cC, 120, .inl gT))]) (_ : va_S A s.heap H locs) (ls : Array Slot) (_ : lv_has ls 4 [(2, .int (nI (i))), (0, .ref jR), (1, .int (nI (dd)))]) (_ : 120 - i < n9), W p l e (headSpec w_s_term4x_g ({ frames := (7 + 6 * (e1 + 1)), cells := 0, slots := 0, locals := 60 * (7 + 6 * (e1 + 1)) })).room s m (#[.ref jR, .int (nI (dd))] : Array Value) below meth c H locs 0 0 Q (F0 m 12 ls []) := by
      intro n9
      induction n9 with
      | zero => intro i xs1 xpn xwr xl ivk_11_0 ivk_11_1 ivk_11_2 ivk_11_3 ivk_11_4 ivk_11_5 ivk_11_6 ivk_11_7 H locs hP hD hS ls hl hm9; exact absurd hm9 (Nat.not_lt_zero _)
      | succ n9 ih_k_11 =>
        intro i xs1 xpn xwr xl ivk_11_0 ivk_11_1 ivk_11_2 ivk_11_3 ivk_11_4 ivk_11_5 ivk_11_6 ivk_11_7 H locs hP hD hS ls hl hm9
        refine lv_iload_n hx hb dX4_readTerm_12 rfl (lv_at hl 0 rfl) ?_
        refine lv_bipush (v := 120) hx hb dX4_readTerm_13 kc_b_120 ?_
        refine lv_icmp_ge (tgt := 79) hx hb dX4_readTerm_15 kc_t_15_64 (fun c_12 => ?_) (fun c_12 => ?_)
        · have bd_14 : i < 2147483648 := by omega
          have hn_13 := kle (a := 120) (b := i) kc_31_120 bd_14 c_12
          refine lv_iconst (v := 1) hx hb dX4_readTerm_79 kc_i_1 ?_
          have hP9 := hP
          have hD9 := hD
          have hK9 := hK
          rw [hQ]
          exact W.zret (v := 1) hx hb hr rfl (fun t ht hW => ⟨⟨1, (xs1, xwr, xpn, true, xl), rfl, ⟨rfl, kPR_t (a := kTermD bt kt g7 n7 (e1 + 1)) rfl (kTermD_good hz7 (e1 + 1)) (by omega) (by rw [← ivk_11_3, show 120 - i = 0 by omega]; rfl) ivk_11_4 ivk_11_5, by omega⟩,  by rw [ht]; exact hP9, va_K.moved hW.alike hK9, hD9⟩, hS.F ht⟩) hS.2.2 dX4_readTerm_80
        · have bd_16 : i < 2147483648 := by omega
          have hn_15 := knle (a := 120) (b := i) kc_31_120 bd_16 c_12
          refine lv_aload_n hx hb dX4_readTerm_18 rfl (lv_at hl 1 rfl) ?_
          have bd_17 : xwr ≤ 120 := by omega
          have bd_18 : xpn ≤ kt := by omega
          have hCu := kCut (wc := [(jR, .inr (4, [.ref jT, .ref r1, .ref r2, .int (nI (xwr)), .int (nI (fi)), .int (nI (xpn)), .ref q6, .ref q7])), (r1, .inl (c1, 120, .inl xs1)), (r2, .inl (c2, 124, .inl s2)), (jT, .inr (8, [.ref t0, .int (nI (kt))])), (t0, .inl (cC, 120, .inl gT))]) hP hD hS hA [0, 1, 2, 3, 4] rfl kc_nd_311 rfl
          have hPc := hCu.1
          have hDc := hCu.2.1
          have hFc := hCu.2.2
          have hKc := hK.sb (tys2 := [(c1, .int), (c2, .int), (cC, .char)]) [0, 1, 2] rfl
          refine va_calli (va_runV (As := []) (rest := []) ⟨hx, hb, hml, hown, hts⟩ (s_look4x l dC dI jT t0 cC gT kt hkt hgT bt hbt hb8 jR r1 r2 c1 c2 xs1 s2 xwr fi q6 q7 bd_17 hfi xpn bd_18 H.size) (cwV 0 hts (kG (List.forall_mem_cons.mpr ⟨(List.mem_cons_of_mem _ (List.mem_append_left _ (List.mem_of_getElem? (i := 3) rfl))), (List.forall_mem_cons.mpr ⟨(List.mem_cons_of_mem _ (List.mem_append_left _ (List.mem_of_getElem? (i := 2) rfl))), (List.forall_mem_cons.mpr ⟨(List.mem_cons_of_mem _ (List.mem_append_left _ (List.mem_of_getElem? (i := 1) rfl))), (List.forall_mem_cons.mpr ⟨(List.mem_cons_of_mem _ (List.mem_append_left _ (List.mem_of_getElem? (i := 0) rfl))), (fun _ h => absurd h List.not_mem_nil)⟩)⟩)⟩)⟩) (kGV _ _ _ _) (fun _ h => List.mem_cons_of_mem _ (List.mem_append_right _ (List.mem_append_left _ h))) gw_s_look4x) rfl rfl rfl ⟨rfl, hd_X4_look⟩ ⟨(show 2 + 1 ≤ (7 + 6 * (e1 + 1)) from by omega), (show 8 + (2 + 11) + 60 * 2 ≤ 60 * (7 + 6 * (e1 + 1)) from by omega)⟩) (kW_V kT_blind kT_give (va_recv hKc hPc (ci := 4) (q0 := 0) rfl rfl) hPc hKc hDc) rfl rfl hl.1 rfl (lv_room (Nat.le_of_ble_eq_true rfl)) dX4_readTerm_19 ⟨(Nat.le_of_ble_eq_true rfl), (Nat.le_of_ble_eq_true rfl)⟩) hS (fun q _ h => hFc q h) hFc (fun r_19 => kU2 (fun Pn_20 ch_21 t H_22 locs ht hvm hw hB hz1 hk1 hS => ?_))
          try dsimp only at hw
          have hPD : kPD dC dI A [(jR, .inr (4, [.ref jT, .ref r1, .ref r2, .int (nI (xwr)), .int (nI (fi)), .int (nI (Pn_20)), .ref q6, .ref q7])), (r1, .inl (c1, 120, .inl xs1)), (r2, .inl (c2, 124, .inl s2)), (jT, .inr (8, [.ref t0, .int (nI (kt))])), (t0, .inl (cC, 120, .inl gT))] H_22 := kJoinX hP hD [0, 1, 2, 3, 4] rfl hk1 hFc hB.1 ht hB.2.2 rfl [some 0, some 1, some 2, some 3, some 4] rfl rfl
          have hP := hPD.1
          have hD := hPD.2
          obtain ⟨rfl, hw_23_0, hw_23_1, hw_23_2, hw_23_3, hw_23_4, hw_23_5, hw_23_6⟩ := hw
          refine lv_bipush (v := 42) hx hb dX4_readTerm_22 kc_b_42 ?_
          refine lv_icmp_eq (tgt := 36) hx hb dX4_readTerm_24 kc_t_24_12 (fun c_24 => ?_) (fun c_24 => ?_)
          · have bd_26 : ch_21 < 2147483648 := by omega
            have hn_25 := keq (a := ch_21) (b := 42) bd_26 kc_31_42 c_24
            refine lv_aload_n hx hb dX4_readTerm_36 rfl (lv_at hl 1 rfl) ?_
            have bd_27 : Pn_20 ≤ kt := by omega
            have hCu := kCut (wc := [(jR, .inr (4, [.ref jT, .ref r1, .ref r2, .int (nI (xwr)), .int (nI (fi)), .int (nI (Pn_20)), .ref q6, .ref q7])), (r1, .inl (c1, 120, .inl xs1)), (r2, .inl (c2, 124, .inl s2)), (jT, .inr (8, [.ref t0, .int (nI (kt))])), (t0, .inl (cC, 120, .inl gT))]) hP hD hS hA [0, 1, 2, 3, 4] rfl kc_nd_311 rfl
            have hPc := hCu.1
            have hDc := hCu.2.1
            have hFc := hCu.2.2
            have hKc := hK.sb (tys2 := [(c1, .int), (c2, .int), (cC, .char)]) [0, 1, 2] rfl
            refine va_calli (va_runV (As := []) (rest := []) ⟨hx, hb, hml, hown, hts⟩ (s_look4x l dC dI jT t0 cC gT kt hkt hgT bt hbt hb8 jR r1 r2 c1 c2 xs1 s2 xwr fi q6 q7 bd_17 hfi Pn_20 bd_27 H_22.size) (cwV 0 hts (kG (List.forall_mem_cons.mpr ⟨(List.mem_cons_of_mem _ (List.mem_append_left _ (List.mem_of_getElem? (i := 3) rfl))), (List.forall_mem_cons.mpr ⟨(List.mem_cons_of_mem _ (List.mem_append_left _ (List.mem_of_getElem? (i := 2) rfl))), (List.forall_mem_cons.mpr ⟨(List.mem_cons_of_mem _ (List.mem_append_left _ (List.mem_of_getElem? (i := 1) rfl))), (List.forall_mem_cons.mpr ⟨(List.mem_cons_of_mem _ (List.mem_append_left _ (List.mem_of_getElem? (i := 0) rfl))), (fun _ h => absurd h List.not_mem_nil)⟩)⟩)⟩)⟩) (kGV _ _ _ _) (fun _ h => List.mem_cons_of_mem _ (List.mem_append_right _ (List.mem_append_left _ h))) gw_s_look4x) rfl rfl rfl ⟨rfl, hd_X4_look⟩ ⟨(show 2 + 1 ≤ (7 + 6 * (e1 + 1)) from by omega), (show 8 + (2 + 11) + 60 * 2 ≤ 60 * (7 + 6 * (e1 + 1)) from by omega)⟩) (kW_V kT_blind kT_give (va_recv hKc hPc (ci := 4) (q0 := 0) rfl rfl) hPc hKc hDc) rfl rfl hl.1 rfl (lv_room (Nat.le_of_ble_eq_true rfl)) dX4_readTerm_37 ⟨(Nat.le_of_ble_eq_true rfl), (Nat.le_of_ble_eq_true rfl)⟩) hS (fun q _ h => hFc q h) hFc (fun r_28 => kU2 (fun Pn_29 ch_30 t H_31 locs ht hvm hw hB hz1 hk1 hS => ?_))
            try dsimp only at hw
            have hPD : kPD dC dI A [(jR, .inr (4, [.ref jT, .ref r1, .ref r2, .int (nI (xwr)), .int (nI (fi)), .int (nI (Pn_29)), .ref q6, .ref q7])), (r1, .inl (c1, 120, .inl xs1)), (r2, .inl (c2, 124, .inl s2)), (jT, .inr (8, [.ref t0, .int (nI (kt))])), (t0, .inl (cC, 120, .inl gT))] H_31 := kJoinX hP hD [0, 1, 2, 3, 4] rfl hk1 hFc hB.1 ht hB.2.2 rfl [some 0, some 1, some 2, some 3, some 4] rfl rfl
            have hP := hPD.1
            have hD := hPD.2
            obtain ⟨rfl, hw_32_0, hw_32_1, hw_32_2, hw_32_3, hw_32_4, hw_32_5, hw_32_6⟩ := hw
            have e9 : Pn_20 = Pn_29 := by rw [hw_32_1, hw_23_1]; exact (kSp_sp (by omega)).symm
            have e8 : ch_21 = ch_30 := by rw [hw_32_0, hw_23_0, hw_23_1]; exact (kLk_sp (by omega)).symm
            subst e9
            subst e8
            refine lv_istore_n hx hb dX4_readTerm_40 rfl hl kc_l_3_4 (kTo [(3, .int (nI (ch_21))), (2, .int (nI (i))), (0, .ref jR), (1, .int (nI (dd)))]) (fun ls hl => ?_)
            refine lv_aload_n hx hb dX4_readTerm_41 rfl (lv_at hl 2 rfl) ?_
            refine lv_dup hx hb dX4_readTerm_42 rfl ?_
            refine va_get (D := (dC, dI)) (ci := 4) (v := .int (nI (Pn_20))) (C := RX4) (T := TX4) (N := 8) hx hb hts (fun _ h => List.mem_cons_of_mem _ (List.mem_append_right _ (List.mem_append_right _ (List.mem_append_right _ (List.mem_append_left _ h))))) hown hK hP 0 rfl rfl 5 kc_l_5_8 (hts (.fieldLink RX4 25 "NotEnded$Reader" "place" "I") (List.mem_cons_of_mem _ (List.mem_append_left _ (List.mem_of_getElem? (i := 11) rfl)))) (fun _ h9 => h9) rfl dX4_readTerm_43 ?_
            refine lv_iconst (v := 1) hx hb dX4_readTerm_46 kc_i_1 ?_
            refine lv_iadd hx hb dX4_readTerm_47 ?_
            refine lv_topi (fun y_33 ey_33 => ?_)
            obtain rfl : y_33 = nI (Pn_20 + 1) := ey_33.trans (nI_add (Pn_20) (1))
            refine va_put (D := (dC, dI)) (ci := 4) (v := .int (nI (Pn_20 + 1))) (ty := tyX4 5) (C := RX4) (T := TX4) (N := 8) hx hb hts (fun _ h => List.mem_cons_of_mem _ (List.mem_append_right _ (List.mem_append_right _ (List.mem_append_right _ (List.mem_append_left _ h))))) tyX4 tyX4_ok nmX4 hown hK hP hD hS 0 rfl rfl 5 kc_l_5_8 (hts (.fieldLink RX4 25 "NotEnded$Reader" "place" "I") (List.mem_cons_of_mem _ (List.mem_append_left _ (List.mem_of_getElem? (i := 11) rfl)))) (fun _ h9 => h9) rfl (tyX4_ok 5 kc_l_5_8) rfl rfl (Nat.le_of_ble_eq_true rfl) dX4_readTerm_48 (fun H locs hP hD hS => ?_)
            have hPD : kPD dC dI A [(jR, .inr (4, [.ref jT, .ref r1, .ref r2, .int (nI (xwr)), .int (nI (fi)), .int (nI (Pn_20 + 1)), .ref q6, .ref q7])), (r1, .inl (c1, 120, .inl xs1)), (r2, .inl (c2, 124, .inl s2)), (jT, .inr (8, [.ref t0, .int (nI (kt))])), (t0, .inl (cC, 120, .inl gT))] H := ⟨hP, hD⟩
            have hP := hPD.1
            have hD := hPD.2
            refine lv_aload_n hx hb dX4_readTerm_51 rfl (lv_at hl 2 rfl) ?_
            refine lv_iload_n hx hb dX4_readTerm_52 rfl (lv_at hl 3 rfl) ?_
            have bd_34 : (Pn_20 + 1) ≤ kt := by omega
            have bd_35 : xwr ≤ (Pn_20 + 1) := by omega
            have hCu := kCut (wc := [(jR, .inr (4, [.ref jT, .ref r1, .ref r2, .int (nI (xwr)), .int (nI (fi)), .int (nI (Pn_20 + 1)), .ref q6, .ref q7])), (r1, .inl (c1, 120, .inl xs1)), (r2, .inl (c2, 124, .inl s2)), (jT, .inr (8, [.ref t0, .int (nI (kt))])), (t0, .inl (cC, 120, .inl gT))]) hP hD hS hA [0, 1, 2, 3, 4] rfl kc_nd_311 rfl
            have hPc := hCu.1
            have hDc := hCu.2.1
            have hFc := hCu.2.2
            have hKc := hK.sb (tys2 := [(c1, .int), (c2, .int), (cC, .char)]) [0, 1, 2] rfl
            refine va_calli (va_runV (As := [.int (nI (dd))]) (rest := []) ⟨hx, hb, hml, hown, hts⟩ (s_atom4x_g l dC dI jT t0 cC gT kt hkt hgT bt hbt hb8 jR r1 r2 c1 c2 xs1 s2 xwr fi q6 q7 bd_17 hfi (Pn_20 + 1) bd_34 bd_35 b6 n6 g6 hn6 b7 n7 g7 hn7 gn6 hz6 gn7 hz7 e1 dd bd_1 ih H.size) (cwV 1 hts (kG (List.forall_mem_cons.mpr ⟨(List.mem_cons_of_mem _ (List.mem_append_left _ (List.mem_of_getElem? (i := 24) rfl))), (List.forall_mem_cons.mpr ⟨(List.mem_cons_of_mem _ (List.mem_append_left _ (List.mem_of_getElem? (i := 23) rfl))), (List.forall_mem_cons.mpr ⟨(List.mem_cons_of_mem _ (List.mem_append_left _ (List.mem_of_getElem? (i := 22) rfl))), (List.forall_mem_cons.mpr ⟨(List.mem_cons_of_mem _ (List.mem_append_left _ (List.mem_of_getElem? (i := 0) rfl))), (fun _ h => absurd h List.not_mem_nil)⟩)⟩)⟩)⟩) (kGV _ _ _ _) (kFam (List.mem_cons_of_mem _ (List.mem_append_left _ (List.mem_of_getElem? (i := 21) rfl)))) gw_s_atom4x_g) rfl rfl rfl ⟨rfl, hd_X4_readAtom⟩ ⟨(show (6 + 6 * (e1 + 1)) + 1 ≤ (7 + 6 * (e1 + 1)) from by omega), (show 8 + (4 + 11) + 60 * (6 + 6 * (e1 + 1)) ≤ 60 * (7 + 6 * (e1 + 1)) from by omega)⟩) (kW_V kS2_blind (kS2_give hX hS hFc) (va_recv hKc hPc (ci := 4) (q0 := 0) rfl rfl) hPc hKc hDc) rfl rfl hl.1 rfl (lv_room (Nat.le_of_ble_eq_true rfl)) dX4_readTerm_53 ⟨(Nat.le_of_ble_eq_true rfl), (Nat.le_of_ble_eq_true rfl)⟩) hS (fun q _ h => hFc q h) hFc (fun r_36 => kU5 (fun S1_37 Wr_38 Pn_39 xo_40 xl_41 t H_42 locs ht hvm hw hB hz1 hk1 hS => ?_))
            try dsimp only at hw
            have hPD : kPD dC dI A [(jR, .inr (4, [.ref jT, .ref r1, .ref r2, .int (nI (Wr_38)), .int (nI (fi)), .int (nI (Pn_39)), .ref q6, .ref q7])), (r1, .inl (c1, 120, .inl S1_37)), (r2, .inl (c2, 124, .inl s2)), (jT, .inr (8, [.ref t0, .int (nI (kt))])), (t0, .inl (cC, 120, .inl gT))] H_42 := kJoinX hP hD [0, 1, 2, 3, 4] rfl hk1 hFc hB.1 ht hB.2.2 rfl [some 0, some 1, some 2, some 3, some 4] rfl rfl
            have hP := hPD.1
            have hD := hPD.2
            have hw_43 := hw
            refine lv_if_eq (tgt := 71) hx hb dX4_readTerm_56 kc_t_56_15 (fun c_44 => ?_) (fun c_44 => ?_)
            · obtain rfl : xo_40 = false := kBo_f (kZr9 hw_43.1 c_44)
              have hw_43_k := hw_43.2.1.2.1
              refine lv_iconst (v := 0) hx hb dX4_readTerm_71 kc_i_0 ?_
              have hP9 := hP
              have hD9 := hD
              have hK9 := hK
              rw [hQ]
              exact W.zret (v := 0) hx hb hr rfl (fun t ht hW => ⟨⟨0, (S1_37, Wr_38, Pn_39, false, ([])), rfl, ⟨rfl, kPR_f (by rw [← ivk_11_3, show 120 - i = (119 - i) + 1 by omega]; exact kLoop_f (by rw [← hw_23_0]; omega) (by rw [← hw_23_1]; exact hw_43.2.1.1)) (by omega), by omega⟩,  by rw [ht]; exact hP9, va_K.moved hW.alike hK9, hD9⟩, hS.F ht⟩) hS.2.2 dX4_readTerm_72
            · obtain rfl : xo_40 = true := kBo_t (kNz9 hw_43.1 c_44)
              obtain ⟨hw_43_W, hw_43_S, hw_43_l, hw_43_p⟩ := hw_43.2.1.2.2 rfl
              have hw_43_k := hw_43.2.1.2.1
              refine lv_aload_n hx hb dX4_readTerm_59 rfl (lv_at hl 2 rfl) ?_
              refine lv_sipush (v := 20000) hx hb dX4_readTerm_60 kc_s_20000 ?_
              refine lv_iload_n hx hb dX4_readTerm_63 rfl (lv_at hl 0 rfl) ?_
              refine lv_iadd hx hb dX4_readTerm_64 ?_
              refine lv_topi (fun y_45 ey_45 => ?_)
              obtain rfl : y_45 = nI (20000 + ch_21) := ey_45.trans (nI_add (20000) (ch_21))
              have bd_46 : Wr_38 ≤ 120 := by omega
              have bd_47 : Pn_39 ≤ kt := by omega
              have bd_48 : Wr_38 < 120 := by omega
              have hCu := kCut (wc := [(jR, .inr (4, [.ref jT, .ref r1, .ref r2, .int (nI (Wr_38)), .int (nI (fi)), .int (nI (Pn_39)), .ref q6, .ref q7])), (r1, .inl (c1, 120, .inl S1_37)), (r2, .inl (c2, 124, .inl s2)), (jT, .inr (8, [.ref t0, .int (nI (kt))])), (t0, .inl (cC, 120, .inl gT))]) hP hD hS hA [0, 1, 2, 3, 4] rfl kc_nd_311 rfl
              have hPc := hCu.1
              have hDc := hCu.2.1
              have hFc := hCu.2.2
              have hKc := hK.sb (tys2 := [(c1, .int), (c2, .int), (cC, .char)]) [0, 1, 2] rfl
              refine va_calli (va_runV (As := [.int (nI (20000 + ch_21))]) (rest := []) ⟨hx, hb, hml, hown, hts⟩ (s_write4x l dC dI jT t0 cC gT kt hkt hgT bt hbt hb8 jR r1 r2 c1 c2 S1_37 s2 Wr_38 fi q6 q7 bd_46 hfi Pn_39 bd_47 (nI (20000 + ch_21)) bd_48 H_42.size) (cwV 1 hts (kG (List.forall_mem_cons.mpr ⟨(List.mem_cons_of_mem _ (List.mem_append_left _ (List.mem_of_getElem? (i := 14) rfl))), (List.forall_mem_cons.mpr ⟨(List.mem_cons_of_mem _ (List.mem_append_left _ (List.mem_of_getElem? (i := 13) rfl))), (List.forall_mem_cons.mpr ⟨(List.mem_cons_of_mem _ (List.mem_append_left _ (List.mem_of_getElem? (i := 12) rfl))), (List.forall_mem_cons.mpr ⟨(List.mem_cons_of_mem _ (List.mem_append_left _ (List.mem_of_getElem? (i := 0) rfl))), (fun _ h => absurd h List.not_mem_nil)⟩)⟩)⟩)⟩) (kGV _ _ _ _) (fun _ h => List.mem_cons_of_mem _ (List.mem_append_right _ (List.mem_append_right _ (List.mem_append_right _ (List.mem_append_right _ (List.mem_append_right _ (List.mem_append_left _ h))))))) gw_s_write4x) rfl rfl rfl ⟨rfl, hd_X4_write⟩ ⟨(show 1 + 1 ≤ (7 + 6 * (e1 + 1)) from by omega), (show 8 + (2 + 11) + 60 * 1 ≤ 60 * (7 + 6 * (e1 + 1)) from by omega)⟩) (kW_V kT_blind kT_give (va_recv hKc hPc (ci := 4) (q0 := 0) rfl rfl) hPc hKc hDc) rfl rfl hl.1 rfl (lv_room (Nat.le_of_ble_eq_true rfl)) dX4_readTerm_65 ⟨(Nat.le_of_ble_eq_true rfl), (Nat.le_of_ble_eq_true rfl)⟩) hS (fun q _ h => hFc q h) hFc (fun r_49 => kU2 (fun S1_50 Wr_51 t H_52 locs ht hvm hw hB hz1 hk1 hS => ?_))
              try dsimp only at hw
              have hPD : kPD dC dI A [(jR, .inr (4, [.ref jT, .ref r1, .ref r2, .int (nI (Wr_51)), .int (nI (fi)), .int (nI (Pn_39)), .ref q6, .ref q7])), (r1, .inl (c1, 120, .inl S1_50)), (r2, .inl (c2, 124, .inl s2)), (jT, .inr (8, [.ref t0, .int (nI (kt))])), (t0, .inl (cC, 120, .inl gT))] H_52 := kJoinX hP hD [0, 1, 2, 3, 4] rfl hk1 hFc hB.1 ht hB.2.2 rfl [some 0, some 1, some 2, some 3, some 4] rfl rfl
              have hP := hPD.1
              have hD := hPD.2
              obtain ⟨rfl, hw_53⟩ := hw
              refine lv_if_ne (tgt := 73) hx hb dX4_readTerm_68 kc_t_68_5 (fun c_54 => ?_) (fun c_54 => absurd c_54 (by decide))
              refine lv_iinc (v := nI (i + 1)) hx hb dX4_readTerm_73 hl (k := 1) rfl (kInc _ 1) kc_l_2_4 (kTo [(2, .int (nI (i + 1))), (3, .int (nI (ch_21))), (0, .ref jR), (1, .int (nI (dd)))]) (fun ls hl => ?_)
              refine lv_goto (tgt := 12) hx hb dX4_readTerm_76 kc_t_76_m64 ?_
              exact ih_k_11 (i + 1) S1_50 Pn_39 Wr_51 (xl ++ xl_41 ++ [nI (20000 + ch_21)]) (by omega) (by omega) (by omega) (by have e9 := kLoop_t (b := bt) (n := kt) (c1 := 42) (c2 := 47) (a := kAtomD bt kt g7 n7 (e1 + 1)) (f := 120 - (i + 1)) (p := xpn) (l := xl) (by rw [← hw_23_0]; omega) (by rw [← hw_23_1]; exact hw_43.2.1.1); rw [← hw_23_0] at e9; rw [← e9, show (120 - (i + 1)) + 1 = 120 - i by omega]; exact ivk_11_3) (by simp only [List.length_append, List.length_cons, List.length_nil]; omega) (kWrt3 ivk_11_5 ivk_11_4 hw_43_S hw_43_W hw_53.2) (by simp only [List.length_append, List.length_cons, List.length_nil]; omega) (by omega) _ _ hP hD hS ls (lv_sub hl [0, 2, 3] rfl) (by omega)
          · have bd_56 : ch_21 < 2147483648 := by omega
            have hn_55 := kneq (a := ch_21) (b := 42) bd_56 kc_31_42 c_24
            refine lv_aload_n hx hb dX4_readTerm_27 rfl (lv_at hl 1 rfl) ?_
            have bd_57 : Pn_20 ≤ kt := by omega
            have hCu := kCut (wc := [(jR, .inr (4, [.ref jT, .ref r1, .ref r2, .int (nI (xwr)), .int (nI (fi)), .int (nI (Pn_20)), .ref q6, .ref q7])), (r1, .inl (c1, 120, .inl xs1)), (r2, .inl (c2, 124, .inl s2)), (jT, .inr (8, [.ref t0, .int (nI (kt))])), (t0, .inl (cC, 120, .inl gT))]) hP hD hS hA [0, 1, 2, 3, 4] rfl kc_nd_311 rfl
            have hPc := hCu.1
            have hDc := hCu.2.1
            have hFc := hCu.2.2
            have hKc := hK.sb (tys2 := [(c1, .int), (c2, .int), (cC, .char)]) [0, 1, 2] rfl
            refine va_calli (va_runV (As := []) (rest := []) ⟨hx, hb, hml, hown, hts⟩ (s_look4x l dC dI jT t0 cC gT kt hkt hgT bt hbt hb8 jR r1 r2 c1 c2 xs1 s2 xwr fi q6 q7 bd_17 hfi Pn_20 bd_57 H_22.size) (cwV 0 hts (kG (List.forall_mem_cons.mpr ⟨(List.mem_cons_of_mem _ (List.mem_append_left _ (List.mem_of_getElem? (i := 3) rfl))), (List.forall_mem_cons.mpr ⟨(List.mem_cons_of_mem _ (List.mem_append_left _ (List.mem_of_getElem? (i := 2) rfl))), (List.forall_mem_cons.mpr ⟨(List.mem_cons_of_mem _ (List.mem_append_left _ (List.mem_of_getElem? (i := 1) rfl))), (List.forall_mem_cons.mpr ⟨(List.mem_cons_of_mem _ (List.mem_append_left _ (List.mem_of_getElem? (i := 0) rfl))), (fun _ h => absurd h List.not_mem_nil)⟩)⟩)⟩)⟩) (kGV _ _ _ _) (fun _ h => List.mem_cons_of_mem _ (List.mem_append_right _ (List.mem_append_left _ h))) gw_s_look4x) rfl rfl rfl ⟨rfl, hd_X4_look⟩ ⟨(show 2 + 1 ≤ (7 + 6 * (e1 + 1)) from by omega), (show 8 + (2 + 11) + 60 * 2 ≤ 60 * (7 + 6 * (e1 + 1)) from by omega)⟩) (kW_V kT_blind kT_give (va_recv hKc hPc (ci := 4) (q0 := 0) rfl rfl) hPc hKc hDc) rfl rfl hl.1 rfl (lv_room (Nat.le_of_ble_eq_true rfl)) dX4_readTerm_28 ⟨(Nat.le_of_ble_eq_true rfl), (Nat.le_of_ble_eq_true rfl)⟩) hS (fun q _ h => hFc q h) hFc (fun r_58 => kU2 (fun Pn_59 ch_60 t H_61 locs ht hvm hw hB hz1 hk1 hS => ?_))
            try dsimp only at hw
            have hPD : kPD dC dI A [(jR, .inr (4, [.ref jT, .ref r1, .ref r2, .int (nI (xwr)), .int (nI (fi)), .int (nI (Pn_59)), .ref q6, .ref q7])), (r1, .inl (c1, 120, .inl xs1)), (r2, .inl (c2, 124, .inl s2)), (jT, .inr (8, [.ref t0, .int (nI (kt))])), (t0, .inl (cC, 120, .inl gT))] H_61 := kJoinX hP hD [0, 1, 2, 3, 4] rfl hk1 hFc hB.1 ht hB.2.2 rfl [some 0, some 1, some 2, some 3, some 4] rfl rfl
            have hP := hPD.1
            have hD := hPD.2
            obtain ⟨rfl, hw_62_0, hw_62_1, hw_62_2, hw_62_3, hw_62_4, hw_62_5, hw_62_6⟩ := hw
            have e9 : Pn_20 = Pn_59 := by rw [hw_62_1, hw_23_1]; exact (kSp_sp (by omega)).symm
            have e8 : ch_21 = ch_60 := by rw [hw_62_0, hw_23_0, hw_23_1]; exact (kLk_sp (by omega)).symm
            subst e9
            subst e8
            refine lv_bipush (v := 47) hx hb dX4_readTerm_31 kc_b_47 ?_
            refine lv_icmp_ne (tgt := 79) hx hb dX4_readTerm_33 kc_t_33_46 (fun c_63 => ?_) (fun c_63 => ?_)
            · have hn_64 := kneq (a := ch_21) (b := 47) bd_56 kc_31_47 c_63
              refine lv_iconst (v := 1) hx hb dX4_readTerm_79 kc_i_1 ?_
              have hP9 := hP
              have hD9 := hD
              have hK9 := hK
              rw [hQ]
              exact W.zret (v := 1) hx hb hr rfl (fun t ht hW => ⟨⟨1, (xs1, xwr, Pn_20, true, xl), rfl, ⟨rfl, kPR_t (a := kTermD bt kt g7 n7 (e1 + 1)) rfl (kTermD_good hz7 (e1 + 1)) (by omega) (by rw [← ivk_11_3, show 120 - i = (119 - i) + 1 by omega, kLoop_e (by rw [← hw_23_0]; omega), ← hw_23_1]) ivk_11_4 ivk_11_5, by omega⟩,  by rw [ht]; exact hP9, va_K.moved hW.alike hK9, hD9⟩, hS.F ht⟩) hS.2.2 dX4_readTerm_80
            · have hn_65 := keq (a := ch_21) (b := 47) bd_56 kc_31_47 c_63
              refine lv_aload_n hx hb dX4_readTerm_36 rfl (lv_at hl 1 rfl) ?_
              have hCu := kCut (wc := [(jR, .inr (4, [.ref jT, .ref r1, .ref r2, .int (nI (xwr)), .int (nI (fi)), .int (nI (Pn_20)), .ref q6, .ref q7])), (r1, .inl (c1, 120, .inl xs1)), (r2, .inl (c2, 124, .inl s2)), (jT, .inr (8, [.ref t0, .int (nI (kt))])), (t0, .inl (cC, 120, .inl gT))]) hP hD hS hA [0, 1, 2, 3, 4] rfl kc_nd_311 rfl
              have hPc := hCu.1
              have hDc := hCu.2.1
              have hFc := hCu.2.2
              have hKc := hK.sb (tys2 := [(c1, .int), (c2, .int), (cC, .char)]) [0, 1, 2] rfl
              refine va_calli (va_runV (As := []) (rest := []) ⟨hx, hb, hml, hown, hts⟩ (s_look4x l dC dI jT t0 cC gT kt hkt hgT bt hbt hb8 jR r1 r2 c1 c2 xs1 s2 xwr fi q6 q7 bd_17 hfi Pn_20 bd_57 H_61.size) (cwV 0 hts (kG (List.forall_mem_cons.mpr ⟨(List.mem_cons_of_mem _ (List.mem_append_left _ (List.mem_of_getElem? (i := 3) rfl))), (List.forall_mem_cons.mpr ⟨(List.mem_cons_of_mem _ (List.mem_append_left _ (List.mem_of_getElem? (i := 2) rfl))), (List.forall_mem_cons.mpr ⟨(List.mem_cons_of_mem _ (List.mem_append_left _ (List.mem_of_getElem? (i := 1) rfl))), (List.forall_mem_cons.mpr ⟨(List.mem_cons_of_mem _ (List.mem_append_left _ (List.mem_of_getElem? (i := 0) rfl))), (fun _ h => absurd h List.not_mem_nil)⟩)⟩)⟩)⟩) (kGV _ _ _ _) (fun _ h => List.mem_cons_of_mem _ (List.mem_append_right _ (List.mem_append_left _ h))) gw_s_look4x) rfl rfl rfl ⟨rfl, hd_X4_look⟩ ⟨(show 2 + 1 ≤ (7 + 6 * (e1 + 1)) from by omega), (show 8 + (2 + 11) + 60 * 2 ≤ 60 * (7 + 6 * (e1 + 1)) from by omega)⟩) (kW_V kT_blind kT_give (va_recv hKc hPc (ci := 4) (q0 := 0) rfl rfl) hPc hKc hDc) rfl rfl hl.1 rfl (lv_room (Nat.le_of_ble_eq_true rfl)) dX4_readTerm_37 ⟨(Nat.le_of_ble_eq_true rfl), (Nat.le_of_ble_eq_true rfl)⟩) hS (fun q _ h => hFc q h) hFc (fun r_66 => kU2 (fun Pn_67 ch_68 t H_69 locs ht hvm hw hB hz1 hk1 hS => ?_))
              try dsimp only at hw
              have hPD : kPD dC dI A [(jR, .inr (4, [.ref jT, .ref r1, .ref r2, .int (nI (xwr)), .int (nI (fi)), .int (nI (Pn_67)), .ref q6, .ref q7])), (r1, .inl (c1, 120, .inl xs1)), (r2, .inl (c2, 124, .inl s2)), (jT, .inr (8, [.ref t0, .int (nI (kt))])), (t0, .inl (cC, 120, .inl gT))] H_69 := kJoinX hP hD [0, 1, 2, 3, 4] rfl hk1 hFc hB.1 ht hB.2.2 rfl [some 0, some 1, some 2, some 3, some 4] rfl rfl
              have hP := hPD.1
              have hD := hPD.2
              obtain ⟨rfl, hw_70_0, hw_70_1, hw_70_2, hw_70_3, hw_70_4, hw_70_5, hw_70_6⟩ := hw
              have e9 : Pn_20 = Pn_67 := by rw [hw_70_1, hw_23_1]; exact (kSp_sp (by omega)).symm
              have e8 : ch_21 = ch_68 := by rw [hw_70_0, hw_23_0, hw_23_1]; exact (kLk_sp (by omega)).symm
              subst e9
              subst e8
              refine lv_istore_n hx hb dX4_readTerm_40 rfl hl kc_l_3_4 (kTo [(3, .int (nI (ch_21))), (2, .int (nI (i))), (0, .ref jR), (1, .int (nI (dd)))]) (fun ls hl => ?_)
              refine lv_aload_n hx hb dX4_readTerm_41 rfl (lv_at hl 2 rfl) ?_
              refine lv_dup hx hb dX4_readTerm_42 rfl ?_
              refine va_get (D := (dC, dI)) (ci := 4) (v := .int (nI (Pn_20))) (C := RX4) (T := TX4) (N := 8) hx hb hts (fun _ h => List.mem_cons_of_mem _ (List.mem_append_right _ (List.mem_append_right _ (List.mem_append_right _ (List.mem_append_left _ h))))) hown hK hP 0 rfl rfl 5 kc_l_5_8 (hts (.fieldLink RX4 25 "NotEnded$Reader" "place" "I") (List.mem_cons_of_mem _ (List.mem_append_left _ (List.mem_of_getElem? (i := 11) rfl)))) (fun _ h9 => h9) rfl dX4_readTerm_43 ?_
              refine lv_iconst (v := 1) hx hb dX4_readTerm_46 kc_i_1 ?_
              refine lv_iadd hx hb dX4_readTerm_47 ?_
              refine lv_topi (fun y_71 ey_71 => ?_)
              obtain rfl : y_71 = nI (Pn_20 + 1) := ey_71.trans (nI_add (Pn_20) (1))
              refine va_put (D := (dC, dI)) (ci := 4) (v := .int (nI (Pn_20 + 1))) (ty := tyX4 5) (C := RX4) (T := TX4) (N := 8) hx hb hts (fun _ h => List.mem_cons_of_mem _ (List.mem_append_right _ (List.mem_append_right _ (List.mem_append_right _ (List.mem_append_left _ h))))) tyX4 tyX4_ok nmX4 hown hK hP hD hS 0 rfl rfl 5 kc_l_5_8 (hts (.fieldLink RX4 25 "NotEnded$Reader" "place" "I") (List.mem_cons_of_mem _ (List.mem_append_left _ (List.mem_of_getElem? (i := 11) rfl)))) (fun _ h9 => h9) rfl (tyX4_ok 5 kc_l_5_8) rfl rfl (Nat.le_of_ble_eq_true rfl) dX4_readTerm_48 (fun H locs hP hD hS => ?_)
              have hPD : kPD dC dI A [(jR, .inr (4, [.ref jT, .ref r1, .ref r2, .int (nI (xwr)), .int (nI (fi)), .int (nI (Pn_20 + 1)), .ref q6, .ref q7])), (r1, .inl (c1, 120, .inl xs1)), (r2, .inl (c2, 124, .inl s2)), (jT, .inr (8, [.ref t0, .int (nI (kt))])), (t0, .inl (cC, 120, .inl gT))] H := ⟨hP, hD⟩
              have hP := hPD.1
              have hD := hPD.2
              refine lv_aload_n hx hb dX4_readTerm_51 rfl (lv_at hl 2 rfl) ?_
              refine lv_iload_n hx hb dX4_readTerm_52 rfl (lv_at hl 3 rfl) ?_
              have bd_72 : (Pn_20 + 1) ≤ kt := by omega
              have bd_73 : xwr ≤ (Pn_20 + 1) := by omega
              have hCu := kCut (wc := [(jR, .inr (4, [.ref jT, .ref r1, .ref r2, .int (nI (xwr)), .int (nI (fi)), .int (nI (Pn_20 + 1)), .ref q6, .ref q7])), (r1, .inl (c1, 120, .inl xs1)), (r2, .inl (c2, 124, .inl s2)), (jT, .inr (8, [.ref t0, .int (nI (kt))])), (t0, .inl (cC, 120, .inl gT))]) hP hD hS hA [0, 1, 2, 3, 4] rfl kc_nd_311 rfl
              have hPc := hCu.1
              have hDc := hCu.2.1
              have hFc := hCu.2.2
              have hKc := hK.sb (tys2 := [(c1, .int), (c2, .int), (cC, .char)]) [0, 1, 2] rfl
              refine va_calli (va_runV (As := [.int (nI (dd))]) (rest := []) ⟨hx, hb, hml, hown, hts⟩ (s_atom4x_g l dC dI jT t0 cC gT kt hkt hgT bt hbt hb8 jR r1 r2 c1 c2 xs1 s2 xwr fi q6 q7 bd_17 hfi (Pn_20 + 1) bd_72 bd_73 b6 n6 g6 hn6 b7 n7 g7 hn7 gn6 hz6 gn7 hz7 e1 dd bd_1 ih H.size) (cwV 1 hts (kG (List.forall_mem_cons.mpr ⟨(List.mem_cons_of_mem _ (List.mem_append_left _ (List.mem_of_getElem? (i := 24) rfl))), (List.forall_mem_cons.mpr ⟨(List.mem_cons_of_mem _ (List.mem_append_left _ (List.mem_of_getElem? (i := 23) rfl))), (List.forall_mem_cons.mpr ⟨(List.mem_cons_of_mem _ (List.mem_append_left _ (List.mem_of_getElem? (i := 22) rfl))), (List.forall_mem_cons.mpr ⟨(List.mem_cons_of_mem _ (List.mem_append_left _ (List.mem_of_getElem? (i := 0) rfl))), (fun _ h => absurd h List.not_mem_nil)⟩)⟩)⟩)⟩) (kGV _ _ _ _) (kFam (List.mem_cons_of_mem _ (List.mem_append_left _ (List.mem_of_getElem? (i := 21) rfl)))) gw_s_atom4x_g) rfl rfl rfl ⟨rfl, hd_X4_readAtom⟩ ⟨(show (6 + 6 * (e1 + 1)) + 1 ≤ (7 + 6 * (e1 + 1)) from by omega), (show 8 + (4 + 11) + 60 * (6 + 6 * (e1 + 1)) ≤ 60 * (7 + 6 * (e1 + 1)) from by omega)⟩) (kW_V kS2_blind (kS2_give hX hS hFc) (va_recv hKc hPc (ci := 4) (q0 := 0) rfl rfl) hPc hKc hDc) rfl rfl hl.1 rfl (lv_room (Nat.le_of_ble_eq_true rfl)) dX4_readTerm_53 ⟨(Nat.le_of_ble_eq_true rfl), (Nat.le_of_ble_eq_true rfl)⟩) hS (fun q _ h => hFc q h) hFc (fun r_74 => kU5 (fun S1_75 Wr_76 Pn_77 xo_78 xl_79 t H_80 locs ht hvm hw hB hz1 hk1 hS => ?_))
              try dsimp only at hw
              have hPD : kPD dC dI A [(jR, .inr (4, [.ref jT, .ref r1, .ref r2, .int (nI (Wr_76)), .int (nI (fi)), .int (nI (Pn_77)), .ref q6, .ref q7])), (r1, .inl (c1, 120, .inl S1_75)), (r2, .inl (c2, 124, .inl s2)), (jT, .inr (8, [.ref t0, .int (nI (kt))])), (t0, .inl (cC, 120, .inl gT))] H_80 := kJoinX hP hD [0, 1, 2, 3, 4] rfl hk1 hFc hB.1 ht hB.2.2 rfl [some 0, some 1, some 2, some 3, some 4] rfl rfl
              have hP := hPD.1
              have hD := hPD.2
              have hw_81 := hw
              refine lv_if_eq (tgt := 71) hx hb dX4_readTerm_56 kc_t_56_15 (fun c_82 => ?_) (fun c_82 => ?_)
              · obtain rfl : xo_78 = false := kBo_f (kZr9 hw_81.1 c_82)
                have hw_81_k := hw_81.2.1.2.1
                refine lv_iconst (v := 0) hx hb dX4_readTerm_71 kc_i_0 ?_
                have hP9 := hP
                have hD9 := hD
                have hK9 := hK
                rw [hQ]
                exact W.zret (v := 0) hx hb hr rfl (fun t ht hW => ⟨⟨0, (S1_75, Wr_76, Pn_77, false, ([])), rfl, ⟨rfl, kPR_f (by rw [← ivk_11_3, show 120 - i = (119 - i) + 1 by omega]; exact kLoop_f (by rw [← hw_23_0]; omega) (by rw [← hw_23_1]; exact hw_81.2.1.1)) (by omega), by omega⟩,  by rw [ht]; exact hP9, va_K.moved hW.alike hK9, hD9⟩, hS.F ht⟩) hS.2.2 dX4_readTerm_72
              · obtain rfl : xo_78 = true := kBo_t (kNz9 hw_81.1 c_82)
                obtain ⟨hw_81_W, hw_81_S, hw_81_l, hw_81_p⟩ := hw_81.2.1.2.2 rfl
                have hw_81_k := hw_81.2.1.2.1
                refine lv_aload_n hx hb dX4_readTerm_59 rfl (lv_at hl 2 rfl) ?_
                refine lv_sipush (v := 20000) hx hb dX4_readTerm_60 kc_s_20000 ?_
                refine lv_iload_n hx hb dX4_readTerm_63 rfl (lv_at hl 0 rfl) ?_
                refine lv_iadd hx hb dX4_readTerm_64 ?_
                refine lv_topi (fun y_83 ey_83 => ?_)
                obtain rfl : y_83 = nI (20000 + ch_21) := ey_83.trans (nI_add (20000) (ch_21))
                have bd_84 : Wr_76 ≤ 120 := by omega
                have bd_85 : Pn_77 ≤ kt := by omega
                have bd_86 : Wr_76 < 120 := by omega
                have hCu := kCut (wc := [(jR, .inr (4, [.ref jT, .ref r1, .ref r2, .int (nI (Wr_76)), .int (nI (fi)), .int (nI (Pn_77)), .ref q6, .ref q7])), (r1, .inl (c1, 120, .inl S1_75)), (r2, .inl (c2, 124, .inl s2)), (jT, .inr (8, [.ref t0, .int (nI (kt))])), (t0, .inl (cC, 120, .inl gT))]) hP hD hS hA [0, 1, 2, 3, 4] rfl kc_nd_311 rfl
                have hPc := hCu.1
                have hDc := hCu.2.1
                have hFc := hCu.2.2
                have hKc := hK.sb (tys2 := [(c1, .int), (c2, .int), (cC, .char)]) [0, 1, 2] rfl
                refine va_calli (va_runV (As := [.int (nI (20000 + ch_21))]) (rest := []) ⟨hx, hb, hml, hown, hts⟩ (s_write4x l dC dI jT t0 cC gT kt hkt hgT bt hbt hb8 jR r1 r2 c1 c2 S1_75 s2 Wr_76 fi q6 q7 bd_84 hfi Pn_77 bd_85 (nI (20000 + ch_21)) bd_86 H_80.size) (cwV 1 hts (kG (List.forall_mem_cons.mpr ⟨(List.mem_cons_of_mem _ (List.mem_append_left _ (List.mem_of_getElem? (i := 14) rfl))), (List.forall_mem_cons.mpr ⟨(List.mem_cons_of_mem _ (List.mem_append_left _ (List.mem_of_getElem? (i := 13) rfl))), (List.forall_mem_cons.mpr ⟨(List.mem_cons_of_mem _ (List.mem_append_left _ (List.mem_of_getElem? (i := 12) rfl))), (List.forall_mem_cons.mpr ⟨(List.mem_cons_of_mem _ (List.mem_append_left _ (List.mem_of_getElem? (i := 0) rfl))), (fun _ h => absurd h List.not_mem_nil)⟩)⟩)⟩)⟩) (kGV _ _ _ _) (fun _ h => List.mem_cons_of_mem _ (List.mem_append_right _ (List.mem_append_right _ (List.mem_append_right _ (List.mem_append_right _ (List.mem_append_right _ (List.mem_append_left _ h))))))) gw_s_write4x) rfl rfl rfl ⟨rfl, hd_X4_write⟩ ⟨(show 1 + 1 ≤ (7 + 6 * (e1 + 1)) from by omega), (show 8 + (2 + 11) + 60 * 1 ≤ 60 * (7 + 6 * (e1 + 1)) from by omega)⟩) (kW_V kT_blind kT_give (va_recv hKc hPc (ci := 4) (q0 := 0) rfl rfl) hPc hKc hDc) rfl rfl hl.1 rfl (lv_room (Nat.le_of_ble_eq_true rfl)) dX4_readTerm_65 ⟨(Nat.le_of_ble_eq_true rfl), (Nat.le_of_ble_eq_true rfl)⟩) hS (fun q _ h => hFc q h) hFc (fun r_87 => kU2 (fun S1_88 Wr_89 t H_90 locs ht hvm hw hB hz1 hk1 hS => ?_))
                try dsimp only at hw
                have hPD : kPD dC dI A [(jR, .inr (4, [.ref jT, .ref r1, .ref r2, .int (nI (Wr_89)), .int (nI (fi)), .int (nI (Pn_77)), .ref q6, .ref q7])), (r1, .inl (c1, 120, .inl S1_88)), (r2, .inl (c2, 124, .inl s2)), (jT, .inr (8, [.ref t0, .int (nI (kt))])), (t0, .inl (cC, 120, .inl gT))] H_90 := kJoinX hP hD [0, 1, 2, 3, 4] rfl hk1 hFc hB.1 ht hB.2.2 rfl [some 0, some 1, some 2, some 3, some 4] rfl rfl
                have hP := hPD.1
                have hD := hPD.2
                obtain ⟨rfl, hw_91⟩ := hw
                refine lv_if_ne (tgt := 73) hx hb dX4_readTerm_68 kc_t_68_5 (fun c_92 => ?_) (fun c_92 => absurd c_92 (by decide))
                refine lv_iinc (v := nI (i + 1)) hx hb dX4_readTerm_73 hl (k := 1) rfl (kInc _ 1) kc_l_2_4 (kTo [(2, .int (nI (i + 1))), (3, .int (nI (ch_21))), (0, .ref jR), (1, .int (nI (dd)))]) (fun ls hl => ?_)
                refine lv_goto (tgt := 12) hx hb dX4_readTerm_76 kc_t_76_m64 ?_
                exact ih_k_11 (i + 1) S1_88 Pn_77 Wr_89 (xl ++ xl_79 ++ [nI (20000 + ch_21)]) (by omega) (by omega) (by omega) (by have e9 := kLoop_t (b := bt) (n := kt) (c1 := 42) (c2 := 47) (a := kAtomD bt kt g7 n7 (e1 + 1)) (f := 120 - (i + 1)) (p := xpn) (l := xl) (by rw [← hw_23_0]; omega) (by rw [← hw_23_1]; exact hw_81.2.1.1); rw [← hw_23_0] at e9; rw [← e9, show (120 - (i + 1)) + 1 = 120 - i by omega]; exact ivk_11_3) (by simp only [List.length_append, List.length_cons, List.length_nil]; omega) (kWrt3 ivk_11_5 ivk_11_4 hw_81_S hw_81_W hw_91.2) (by simp only [List.length_append, List.length_cons, List.length_nil]; omega) (by omega) _ _ hP hD hS ls (lv_sub hl [0, 2, 3] rfl) (by omega)
    exact lp_k_11 (120 - 0 + 1) 0 S1_3 Pn_5 Wr_4 xl_7 (by omega) (by omega) (by omega) (kMany_t hw_9.2.1.1).symm hw_9_W hw_9_S hw_9_l hw_9_p _ _ hP hD hS ls (lv_sub hl [0, 1, 2] rfl) (by omega)
  · obtain rfl : xo_6 = false := kBo_f (kZr9 hw_9.1 c_10)
    have hw_9_k := hw_9.2.1.2.1
    refine lv_iconst (v := 0) hx hb dX4_readTerm_8 kc_i_0 ?_
    have hP9 := hP
    have hD9 := hD
    have hK9 := hK
    rw [hQ]
    exact W.zret (v := 0) hx hb hr rfl (fun t ht hW => ⟨⟨0, (S1_3, Wr_4, Pn_5, false, ([])), rfl, ⟨rfl, kPR_f (kMany_f hw_9.2.1.1) (by omega), by omega⟩,  by rw [ht]; exact hP9, va_K.moved hW.alike hK9, hD9⟩, hS.F ht⟩) hS.2.2 dX4_readTerm_9

def w_s_sum4x_g : List Cond := .code yX4_readSum cX4_readSum 4 (some .boolean) :: wf_rq
theorem gw_s_sum4x_g : (w_s_sum4x_g).all goodWord = true := kFamG rfl gf_rq
set_option maxHeartbeats 4000000 in
set_option maxRecDepth 100000 in
theorem s_sum4x_g (l : Launch) (dC : Nat → ClassId) (dI : Nat → Nat → Nat) (jT : Nat) (t0 : Nat) (cC : ClassId) (gT : Nat → Int32) (kt : Nat) (hkt : kt ≤ 120) (hgT : ∀ j : Nat, narrow .char (.int (gT j)) = .int (gT j)) (bt : Nat → Nat) (hbt : ∀ j : Nat, gT j = nI (bt j)) (hb8 : ∀ j : Nat, bt j < 256) (jR : Nat) (r1 : Nat) (r2 : Nat) (c1 : ClassId) (c2 : ClassId) (s1 : Nat → Int32) (s2 : Nat → Int32) (wr : Nat) (fi : Nat) (q6 : Nat) (q7 : Nat) (hwr : wr ≤ 120) (hfi : fi ≤ 124) (pn : Nat) (hpn : pn ≤ kt) (hwp : wr ≤ pn) (b6 : Nat) (n6 : Nat) (g6 : Nat → Int32) (hn6 : n6 ≤ 8) (b7 : Nat) (n7 : Nat) (g7 : Nat → Int32) (hn7 : n7 ≤ 8) (gn6 : ∀ k : Nat, ∃ v : Nat, v < 128 ∧ g6 k = nI v) (hz6 : kIx g6 n6 (nI 0) = n6) (gn7 : ∀ k : Nat, ∃ v : Nat, v < 128 ∧ g7 k = nI v) (hz7 : kIx g7 n7 (nI 0) = n7) (e1 : Nat) (dd : Nat) (hdd : dd + e1 = 5) (ih : kIHq e1) (sz : Nat) : Met l yX4_readSum w_s_sum4x_g ({ frames := (8 + 6 * (e1 + 1)), cells := 0, slots := 0, locals := 60 * (8 + 6 * (e1 + 1)) }) (kW dC dI [.ref jR, .int (nI (dd))] [(jR, .inr (4, [.ref jT, .ref r1, .ref r2, .int (nI (wr)), .int (nI (fi)), .int (nI (pn)), .ref q6, .ref q7])), (r1, .inl (c1, 120, .inl s1)), (r2, .inl (c2, 124, .inl s2)), (jT, .inr (8, [.ref t0, .int (nI (kt))])), (t0, .inl (cC, 120, .inl gT))] [(c1, .int), (c2, .int), (cC, .char)] (kS2 q6 b6 n6 g6 q7 b7 n7 g7 (va_A [(jR, .inr (4, [.ref jT, .ref r1, .ref r2, .int (nI (wr)), .int (nI (fi)), .int (nI (pn)), .ref q6, .ref q7])), (r1, .inl (c1, 120, .inl s1)), (r2, .inl (c2, 124, .inl s2)), (jT, .inr (8, [.ref t0, .int (nI (kt))])), (t0, .inl (cC, 120, .inl gT))] sz)) sz) (va_Qi (fun (r : Int32) (u : (Nat → Int32) × Nat × Nat × Bool × (List Int32)) => match u with | (S1, Wr, Pn, xo, xl) => (r = kBo xo ∧ kPR (kSumD bt kt g7 n7 (e1 + 1) pn) pn kt wr s1 xo Pn xl Wr S1 ∧ Wr ≤ 120)) (fun (u : (Nat → Int32) × Nat × Nat × Bool × (List Int32)) => match u with | (S1, Wr, Pn, xo, xl) => fun t : State => kB dC dI [(jR, .inr (4, [.ref jT, .ref r1, .ref r2, .int (nI (Wr)), .int (nI (fi)), .int (nI (Pn)), .ref q6, .ref q7])), (r1, .inl (c1, 120, .inl S1)), (r2, .inl (c2, 124, .inl s2)), (jT, .inr (8, [.ref t0, .int (nI (kt))])), (t0, .inl (cC, 120, .inl gT))] [(c1, .int), (c2, .int), (cC, .char)] (va_A [(jR, .inr (4, [.ref jT, .ref r1, .ref r2, .int (nI (wr)), .int (nI (fi)), .int (nI (pn)), .ref q6, .ref q7])), (r1, .inl (c1, 120, .inl s1)), (r2, .inl (c2, 124, .inl s2)), (jT, .inr (8, [.ref t0, .int (nI (kt))])), (t0, .inl (cC, 120, .inl gT))] sz) t) (va_A [(jR, .inr (4, [.ref jT, .ref r1, .ref r2, .int (nI (wr)), .int (nI (fi)), .int (nI (pn)), .ref q6, .ref q7])), (r1, .inl (c1, 120, .inl s1)), (r2, .inl (c2, 124, .inl s2)), (jT, .inr (8, [.ref t0, .int (nI (kt))])), (t0, .inl (cC, 120, .inl gT))] sz)) 0 0 (va_A [(jR, .inr (4, [.ref jT, .ref r1, .ref r2, .int (nI (wr)), .int (nI (fi)), .int (nI (pn)), .ref q6, .ref q7])), (r1, .inl (c1, 120, .inl s1)), (r2, .inl (c2, 124, .inl s2)), (jT, .inr (8, [.ref t0, .int (nI (kt))])), (t0, .inl (cC, 120, .inl gT))] sz) := by
  refine Met.ofW (cc := cX4_readSum) (maxL := 4) (ret := (some .boolean)) (by decide) rfl ?_
  intro p e s m args below meth c s₁ B hml hv
  obtain ⟨rfl, hsz, hP, hK, hD0, hX⟩ := hv
  have hx := B.exec
  have hb := B.bytes
  have hr := B.returns
  have hts := atoms_spec (ws := w_s_sum4x_g) B.pre
  have hown : s.vm.findClass RX4 = some m.cls := findClass_of_methodNamed B.named
  have hlocks := B.notSynchronized
  subst hsz
  have hD := hD0.self (sz := s.heap.size)
  generalize hAe : va_A [(jR, .inr (4, [.ref jT, .ref r1, .ref r2, .int (nI (wr)), .int (nI (fi)), .int (nI (pn)), .ref q6, .ref q7])), (r1, .inl (c1, 120, .inl s1)), (r2, .inl (c2, 124, .inl s2)), (jT, .inr (8, [.ref t0, .int (nI (kt))])), (t0, .inl (cC, 120, .inl gT))] s.heap.size = A at hD hX ⊢
  have hA : ∀ q : Nat, s.heap.size ≤ q → A q := fun q h => by rw [← hAe]; exact Or.inr h
  have hS : va_S A s.heap s.heap [] := va_S.rf
  have hP : va_P (dC, dI) vwCl [(jR, .inr (4, [.ref jT, .ref r1, .ref r2, .int (nI (wr)), .int (nI (fi)), .int (nI (pn)), .ref q6, .ref q7])), (r1, .inl (c1, 120, .inl s1)), (r2, .inl (c2, 124, .inl s2)), (jT, .inr (8, [.ref t0, .int (nI (kt))])), (t0, .inl (cC, 120, .inl gT))] s.heap := hP
  have hl := lv_entry ([.ref jR, .int (nI (dd))]) (n := 4) (Nat.le_of_ble_eq_true rfl)
  rw [lg_entry_eq]
  generalize (lg_sl ([.ref jR, .int (nI (dd))]) ++ List.replicate (4 - (lg_sl ([.ref jR, .int (nI (dd))])).length) Slot.unset).toArray = ls at hl ⊢
  have hl : lv_has ls 4 [(0, .ref jR), (1, .int (nI (dd)))] := hl
  refine kQ (fun Q hQ => ?_)
  refine lv_aload_n hx hb dX4_readSum_0 rfl (lv_at hl 0 rfl) ?_
  refine lv_iload_n hx hb dX4_readSum_1 rfl (lv_at hl 1 rfl) ?_
  have bd_1 : dd + e1 = 5 := by omega
  have hCu := kCut (wc := [(jR, .inr (4, [.ref jT, .ref r1, .ref r2, .int (nI (wr)), .int (nI (fi)), .int (nI (pn)), .ref q6, .ref q7])), (r1, .inl (c1, 120, .inl s1)), (r2, .inl (c2, 124, .inl s2)), (jT, .inr (8, [.ref t0, .int (nI (kt))])), (t0, .inl (cC, 120, .inl gT))]) hP hD hS hA [0, 1, 2, 3, 4] rfl kc_nd_311 rfl
  have hPc := hCu.1
  have hDc := hCu.2.1
  have hFc := hCu.2.2
  have hKc := hK.sb (tys2 := [(c1, .int), (c2, .int), (cC, .char)]) [0, 1, 2] rfl
  refine va_calli (va_runV (As := [.int (nI (dd))]) (rest := []) ⟨hx, hb, hml, hown, hts⟩ (s_term4x_g l dC dI jT t0 cC gT kt hkt hgT bt hbt hb8 jR r1 r2 c1 c2 s1 s2 wr fi q6 q7 hwr hfi pn hpn hwp b6 n6 g6 hn6 b7 n7 g7 hn7 gn6 hz6 gn7 hz7 e1 dd bd_1 ih s.heap.size) (cwV 1 hts (kG (List.forall_mem_cons.mpr ⟨(List.mem_cons_of_mem _ (List.mem_append_left _ (List.mem_of_getElem? (i := 28) rfl))), (List.forall_mem_cons.mpr ⟨(List.mem_cons_of_mem _ (List.mem_append_left _ (List.mem_of_getElem? (i := 27) rfl))), (List.forall_mem_cons.mpr ⟨(List.mem_cons_of_mem _ (List.mem_append_left _ (List.mem_of_getElem? (i := 26) rfl))), (List.forall_mem_cons.mpr ⟨(List.mem_cons_of_mem _ (List.mem_append_left _ (List.mem_of_getElem? (i := 0) rfl))), (fun _ h => absurd h List.not_mem_nil)⟩)⟩)⟩)⟩) (kGV _ _ _ _) (kFam (List.mem_cons_of_mem _ (List.mem_append_left _ (List.mem_of_getElem? (i := 25) rfl)))) gw_s_term4x_g) rfl rfl rfl ⟨rfl, hd_X4_readTerm⟩ ⟨(show (7 + 6 * (e1 + 1)) + 1 ≤ (8 + 6 * (e1 + 1)) from by omega), (show 8 + (4 + 11) + 60 * (7 + 6 * (e1 + 1)) ≤ 60 * (8 + 6 * (e1 + 1)) from by omega)⟩) (kW_V kS2_blind (kS2_give hX hS hFc) (va_recv hKc hPc (ci := 4) (q0 := 0) rfl rfl) hPc hKc hDc) rfl rfl hl.1 rfl (lv_room (Nat.le_of_ble_eq_true rfl)) dX4_readSum_2 ⟨(Nat.le_of_ble_eq_true rfl), (Nat.le_of_ble_eq_true rfl)⟩) hS (fun q _ h => hFc q h) hFc (fun r_2 => kU5 (fun S1_3 Wr_4 Pn_5 xo_6 xl_7 t H_8 locs ht hvm hw hB hz1 hk1 hS => ?_))
  try dsimp only at hw
  have hPD : kPD dC dI A [(jR, .inr (4, [.ref jT, .ref r1, .ref r2, .int (nI (Wr_4)), .int (nI (fi)), .int (nI (Pn_5)), .ref q6, .ref q7])), (r1, .inl (c1, 120, .inl S1_3)), (r2, .inl (c2, 124, .inl s2)), (jT, .inr (8, [.ref t0, .int (nI (kt))])), (t0, .inl (cC, 120, .inl gT))] H_8 := kJoinX hP hD [0, 1, 2, 3, 4] rfl hk1 hFc hB.1 ht hB.2.2 rfl [some 0, some 1, some 2, some 3, some 4] rfl rfl
  have hP := hPD.1
  have hD := hPD.2
  have hw_9 := hw
  refine lv_if_ne (tgt := 10) hx hb dX4_readSum_5 kc_t_5_5 (fun c_10 => ?_) (fun c_10 => ?_)
  · obtain rfl : xo_6 = true := kBo_t (kNz9 hw_9.1 c_10)
    obtain ⟨hw_9_W, hw_9_S, hw_9_l, hw_9_p⟩ := hw_9.2.1.2.2 rfl
    have hw_9_k := hw_9.2.1.2.1
    refine lv_iconst (v := 0) hx hb dX4_readSum_10 kc_i_0 ?_
    refine lv_istore_n hx hb dX4_readSum_11 rfl hl kc_l_2_4 (kTo [(2, .int 0), (0, .ref jR), (1, .int (nI (dd)))]) (fun ls hl => ?_)
    have lp_k_11 : ∀ (n9 : Nat) (i : Nat) (xs1 : Nat → Int32) (xpn : Nat) (xwr : Nat) (xl : List Int32) (ivk_11_0 : i ≤ 120) (ivk_11_1 : xwr ≤ 120) (ivk_11_2 : xpn ≤ kt) (ivk_11_3 : kLoop bt kt 43 45 (kTermD bt kt g7 n7 (e1 + 1)) (120 - i) xpn xl = kSumD bt kt g7 n7 (e1 + 1) pn) (ivk_11_4 : xwr = wr + xl.length) (ivk_11_5 : xs1 = kWrt s1 wr xl) (ivk_11_6 : pn + xl.length ≤ xpn) (ivk_11_7 : pn < xpn) (H : Heap) (locs : List Loc) (_ : va_P (dC, dI) vwCl [(jR, .inr (4, [.ref jT, .ref r1, .ref r2, .int (nI (xwr)), .int (nI (fi)), .int (nI (xpn)), .ref q6, .ref q7])), (r1, .inl (c1, 120, .inl xs1)), (r2, .inl (c2, 124, .inl s2)), (jT, .inr (8, [.ref t0, .int (nI (kt))])), (t0, .inl (cC, 120, .inl gT))] H) (_ : va_D A [(jR, .inr (4, [.ref jT, .ref r1, .ref r2, .int (nI (xwr)), .int (nI (fi)), .int (nI (xpn)), .ref q6, .ref q7])), (r1, .inl (c1, 120, .inl xs1)), (r2, .inl (c2, 124, .inl s2)), (jT, .inr (8, [.ref t0, .int (nI (kt))])), (t0, .inl (cC, 120, .inl gT))]) (_ : va_S A s.heap H locs) (ls : Array Slot) (_ : lv_has ls 4 [(2, .int (nI (i))), (0, .ref jR), (1, .int (nI (dd)))]) (_ : 120 - i < n9), W p l e (headSpec w_s_sum4x_g ({ frames := (8 + 6 * (e1 + 1)), cells := 0, slots := 0, locals := 60 * (8 + 6 * (e1 + 1)) })).room s m (#[.ref jR, .int (nI (dd))] : Array Value) below meth c H locs 0 0 Q (F0 m 12 ls []) := by
      intro n9
      induction n9 with
      | zero => intro i xs1 xpn xwr xl ivk_11_0 ivk_11_1 ivk_11_2 ivk_11_3 ivk_11_4 ivk_11_5 ivk_11_6 ivk_11_7 H locs hP hD hS ls hl hm9; exact absurd hm9 (Nat.not_lt_zero _)
      | succ n9 ih_k_11 =>
        intro i xs1 xpn xwr xl ivk_11_0 ivk_11_1 ivk_11_2 ivk_11_3 ivk_11_4 ivk_11_5 ivk_11_6 ivk_11_7 H locs hP hD hS ls hl hm9
        refine lv_iload_n hx hb dX4_readSum_12 rfl (lv_at hl 0 rfl) ?_
        refine lv_bipush (v := 120) hx hb dX4_readSum_13 kc_b_120 ?_
        refine lv_icmp_ge (tgt := 79) hx hb dX4_readSum_15 kc_t_15_64 (fun c_12 => ?_) (fun c_12 => ?_)
        · have bd_14 : i < 2147483648 := by omega
          have hn_13 := kle (a := 120) (b := i) kc_31_120 bd_14 c_12
          refine lv_iconst (v := 1) hx hb dX4_readSum_79 kc_i_1 ?_
          have hP9 := hP
          have hD9 := hD
          have hK9 := hK
          rw [hQ]
          exact W.zret (v := 1) hx hb hr rfl (fun t ht hW => ⟨⟨1, (xs1, xwr, xpn, true, xl), rfl, ⟨rfl, kPR_t (a := kSumD bt kt g7 n7 (e1 + 1)) rfl (kSumD_good hz7 (e1 + 1)) (by omega) (by rw [← ivk_11_3, show 120 - i = 0 by omega]; rfl) ivk_11_4 ivk_11_5, by omega⟩,  by rw [ht]; exact hP9, va_K.moved hW.alike hK9, hD9⟩, hS.F ht⟩) hS.2.2 dX4_readSum_80
        · have bd_16 : i < 2147483648 := by omega
          have hn_15 := knle (a := 120) (b := i) kc_31_120 bd_16 c_12
          refine lv_aload_n hx hb dX4_readSum_18 rfl (lv_at hl 1 rfl) ?_
          have bd_17 : xwr ≤ 120 := by omega
          have bd_18 : xpn ≤ kt := by omega
          have hCu := kCut (wc := [(jR, .inr (4, [.ref jT, .ref r1, .ref r2, .int (nI (xwr)), .int (nI (fi)), .int (nI (xpn)), .ref q6, .ref q7])), (r1, .inl (c1, 120, .inl xs1)), (r2, .inl (c2, 124, .inl s2)), (jT, .inr (8, [.ref t0, .int (nI (kt))])), (t0, .inl (cC, 120, .inl gT))]) hP hD hS hA [0, 1, 2, 3, 4] rfl kc_nd_311 rfl
          have hPc := hCu.1
          have hDc := hCu.2.1
          have hFc := hCu.2.2
          have hKc := hK.sb (tys2 := [(c1, .int), (c2, .int), (cC, .char)]) [0, 1, 2] rfl
          refine va_calli (va_runV (As := []) (rest := []) ⟨hx, hb, hml, hown, hts⟩ (s_look4x l dC dI jT t0 cC gT kt hkt hgT bt hbt hb8 jR r1 r2 c1 c2 xs1 s2 xwr fi q6 q7 bd_17 hfi xpn bd_18 H.size) (cwV 0 hts (kG (List.forall_mem_cons.mpr ⟨(List.mem_cons_of_mem _ (List.mem_append_left _ (List.mem_of_getElem? (i := 3) rfl))), (List.forall_mem_cons.mpr ⟨(List.mem_cons_of_mem _ (List.mem_append_left _ (List.mem_of_getElem? (i := 2) rfl))), (List.forall_mem_cons.mpr ⟨(List.mem_cons_of_mem _ (List.mem_append_left _ (List.mem_of_getElem? (i := 1) rfl))), (List.forall_mem_cons.mpr ⟨(List.mem_cons_of_mem _ (List.mem_append_left _ (List.mem_of_getElem? (i := 0) rfl))), (fun _ h => absurd h List.not_mem_nil)⟩)⟩)⟩)⟩) (kGV _ _ _ _) (fun _ h => List.mem_cons_of_mem _ (List.mem_append_right _ (List.mem_append_left _ h))) gw_s_look4x) rfl rfl rfl ⟨rfl, hd_X4_look⟩ ⟨(show 2 + 1 ≤ (8 + 6 * (e1 + 1)) from by omega), (show 8 + (2 + 11) + 60 * 2 ≤ 60 * (8 + 6 * (e1 + 1)) from by omega)⟩) (kW_V kT_blind kT_give (va_recv hKc hPc (ci := 4) (q0 := 0) rfl rfl) hPc hKc hDc) rfl rfl hl.1 rfl (lv_room (Nat.le_of_ble_eq_true rfl)) dX4_readSum_19 ⟨(Nat.le_of_ble_eq_true rfl), (Nat.le_of_ble_eq_true rfl)⟩) hS (fun q _ h => hFc q h) hFc (fun r_19 => kU2 (fun Pn_20 ch_21 t H_22 locs ht hvm hw hB hz1 hk1 hS => ?_))
          try dsimp only at hw
          have hPD : kPD dC dI A [(jR, .inr (4, [.ref jT, .ref r1, .ref r2, .int (nI (xwr)), .int (nI (fi)), .int (nI (Pn_20)), .ref q6, .ref q7])), (r1, .inl (c1, 120, .inl xs1)), (r2, .inl (c2, 124, .inl s2)), (jT, .inr (8, [.ref t0, .int (nI (kt))])), (t0, .inl (cC, 120, .inl gT))] H_22 := kJoinX hP hD [0, 1, 2, 3, 4] rfl hk1 hFc hB.1 ht hB.2.2 rfl [some 0, some 1, some 2, some 3, some 4] rfl rfl
          have hP := hPD.1
          have hD := hPD.2
          obtain ⟨rfl, hw_23_0, hw_23_1, hw_23_2, hw_23_3, hw_23_4, hw_23_5, hw_23_6⟩ := hw
          refine lv_bipush (v := 43) hx hb dX4_readSum_22 kc_b_43 ?_
          refine lv_icmp_eq (tgt := 36) hx hb dX4_readSum_24 kc_t_24_12 (fun c_24 => ?_) (fun c_24 => ?_)
          · have bd_26 : ch_21 < 2147483648 := by omega
            have hn_25 := keq (a := ch_21) (b := 43) bd_26 kc_31_43 c_24
            refine lv_aload_n hx hb dX4_readSum_36 rfl (lv_at hl 1 rfl) ?_
            have bd_27 : Pn_20 ≤ kt := by omega
            have hCu := kCut (wc := [(jR, .inr (4, [.ref jT, .ref r1, .ref r2, .int (nI (xwr)), .int (nI (fi)), .int (nI (Pn_20)), .ref q6, .ref q7])), (r1, .inl (c1, 120, .inl xs1)), (r2, .inl (c2, 124, .inl s2)), (jT, .inr (8, [.ref t0, .int (nI (kt))])), (t0, .inl (cC, 120, .inl gT))]) hP hD hS hA [0, 1, 2, 3, 4] rfl kc_nd_311 rfl
            have hPc := hCu.1
            have hDc := hCu.2.1
            have hFc := hCu.2.2
            have hKc := hK.sb (tys2 := [(c1, .int), (c2, .int), (cC, .char)]) [0, 1, 2] rfl
            refine va_calli (va_runV (As := []) (rest := []) ⟨hx, hb, hml, hown, hts⟩ (s_look4x l dC dI jT t0 cC gT kt hkt hgT bt hbt hb8 jR r1 r2 c1 c2 xs1 s2 xwr fi q6 q7 bd_17 hfi Pn_20 bd_27 H_22.size) (cwV 0 hts (kG (List.forall_mem_cons.mpr ⟨(List.mem_cons_of_mem _ (List.mem_append_left _ (List.mem_of_getElem? (i := 3) rfl))), (List.forall_mem_cons.mpr ⟨(List.mem_cons_of_mem _ (List.mem_append_left _ (List.mem_of_getElem? (i := 2) rfl))), (List.forall_mem_cons.mpr ⟨(List.mem_cons_of_mem _ (List.mem_append_left _ (List.mem_of_getElem? (i := 1) rfl))), (List.forall_mem_cons.mpr ⟨(List.mem_cons_of_mem _ (List.mem_append_left _ (List.mem_of_getElem? (i := 0) rfl))), (fun _ h => absurd h List.not_mem_nil)⟩)⟩)⟩)⟩) (kGV _ _ _ _) (fun _ h => List.mem_cons_of_mem _ (List.mem_append_right _ (List.mem_append_left _ h))) gw_s_look4x) rfl rfl rfl ⟨rfl, hd_X4_look⟩ ⟨(show 2 + 1 ≤ (8 + 6 * (e1 + 1)) from by omega), (show 8 + (2 + 11) + 60 * 2 ≤ 60 * (8 + 6 * (e1 + 1)) from by omega)⟩) (kW_V kT_blind kT_give (va_recv hKc hPc (ci := 4) (q0 := 0) rfl rfl) hPc hKc hDc) rfl rfl hl.1 rfl (lv_room (Nat.le_of_ble_eq_true rfl)) dX4_readSum_37 ⟨(Nat.le_of_ble_eq_true rfl), (Nat.le_of_ble_eq_true rfl)⟩) hS (fun q _ h => hFc q h) hFc (fun r_28 => kU2 (fun Pn_29 ch_30 t H_31 locs ht hvm hw hB hz1 hk1 hS => ?_))
            try dsimp only at hw
            have hPD : kPD dC dI A [(jR, .inr (4, [.ref jT, .ref r1, .ref r2, .int (nI (xwr)), .int (nI (fi)), .int (nI (Pn_29)), .ref q6, .ref q7])), (r1, .inl (c1, 120, .inl xs1)), (r2, .inl (c2, 124, .inl s2)), (jT, .inr (8, [.ref t0, .int (nI (kt))])), (t0, .inl (cC, 120, .inl gT))] H_31 := kJoinX hP hD [0, 1, 2, 3, 4] rfl hk1 hFc hB.1 ht hB.2.2 rfl [some 0, some 1, some 2, some 3, some 4] rfl rfl
            have hP := hPD.1
            have hD := hPD.2
            obtain ⟨rfl, hw_32_0, hw_32_1, hw_32_2, hw_32_3, hw_32_4, hw_32_5, hw_32_6⟩ := hw
            have e9 : Pn_20 = Pn_29 := by rw [hw_32_1, hw_23_1]; exact (kSp_sp (by omega)).symm
            have e8 : ch_21 = ch_30 := by rw [hw_32_0, hw_23_0, hw_23_1]; exact (kLk_sp (by omega)).symm
            subst e9
            subst e8
            refine lv_istore_n hx hb dX4_readSum_40 rfl hl kc_l_3_4 (kTo [(3, .int (nI (ch_21))), (2, .int (nI (i))), (0, .ref jR), (1, .int (nI (dd)))]) (fun ls hl => ?_)
            refine lv_aload_n hx hb dX4_readSum_41 rfl (lv_at hl 2 rfl) ?_
            refine lv_dup hx hb dX4_readSum_42 rfl ?_
            refine va_get (D := (dC, dI)) (ci := 4) (v := .int (nI (Pn_20))) (C := RX4) (T := TX4) (N := 8) hx hb hts (fun _ h => List.mem_cons_of_mem _ (List.mem_append_right _ (List.mem_append_right _ (List.mem_append_right _ (List.mem_append_left _ h))))) hown hK hP 0 rfl rfl 5 kc_l_5_8 (hts (.fieldLink RX4 25 "NotEnded$Reader" "place" "I") (List.mem_cons_of_mem _ (List.mem_append_left _ (List.mem_of_getElem? (i := 11) rfl)))) (fun _ h9 => h9) rfl dX4_readSum_43 ?_
            refine lv_iconst (v := 1) hx hb dX4_readSum_46 kc_i_1 ?_
            refine lv_iadd hx hb dX4_readSum_47 ?_
            refine lv_topi (fun y_33 ey_33 => ?_)
            obtain rfl : y_33 = nI (Pn_20 + 1) := ey_33.trans (nI_add (Pn_20) (1))
            refine va_put (D := (dC, dI)) (ci := 4) (v := .int (nI (Pn_20 + 1))) (ty := tyX4 5) (C := RX4) (T := TX4) (N := 8) hx hb hts (fun _ h => List.mem_cons_of_mem _ (List.mem_append_right _ (List.mem_append_right _ (List.mem_append_right _ (List.mem_append_left _ h))))) tyX4 tyX4_ok nmX4 hown hK hP hD hS 0 rfl rfl 5 kc_l_5_8 (hts (.fieldLink RX4 25 "NotEnded$Reader" "place" "I") (List.mem_cons_of_mem _ (List.mem_append_left _ (List.mem_of_getElem? (i := 11) rfl)))) (fun _ h9 => h9) rfl (tyX4_ok 5 kc_l_5_8) rfl rfl (Nat.le_of_ble_eq_true rfl) dX4_readSum_48 (fun H locs hP hD hS => ?_)
            have hPD : kPD dC dI A [(jR, .inr (4, [.ref jT, .ref r1, .ref r2, .int (nI (xwr)), .int (nI (fi)), .int (nI (Pn_20 + 1)), .ref q6, .ref q7])), (r1, .inl (c1, 120, .inl xs1)), (r2, .inl (c2, 124, .inl s2)), (jT, .inr (8, [.ref t0, .int (nI (kt))])), (t0, .inl (cC, 120, .inl gT))] H := ⟨hP, hD⟩
            have hP := hPD.1
            have hD := hPD.2
            refine lv_aload_n hx hb dX4_readSum_51 rfl (lv_at hl 2 rfl) ?_
            refine lv_iload_n hx hb dX4_readSum_52 rfl (lv_at hl 3 rfl) ?_
            have bd_34 : (Pn_20 + 1) ≤ kt := by omega
            have bd_35 : xwr ≤ (Pn_20 + 1) := by omega
            have hCu := kCut (wc := [(jR, .inr (4, [.ref jT, .ref r1, .ref r2, .int (nI (xwr)), .int (nI (fi)), .int (nI (Pn_20 + 1)), .ref q6, .ref q7])), (r1, .inl (c1, 120, .inl xs1)), (r2, .inl (c2, 124, .inl s2)), (jT, .inr (8, [.ref t0, .int (nI (kt))])), (t0, .inl (cC, 120, .inl gT))]) hP hD hS hA [0, 1, 2, 3, 4] rfl kc_nd_311 rfl
            have hPc := hCu.1
            have hDc := hCu.2.1
            have hFc := hCu.2.2
            have hKc := hK.sb (tys2 := [(c1, .int), (c2, .int), (cC, .char)]) [0, 1, 2] rfl
            refine va_calli (va_runV (As := [.int (nI (dd))]) (rest := []) ⟨hx, hb, hml, hown, hts⟩ (s_term4x_g l dC dI jT t0 cC gT kt hkt hgT bt hbt hb8 jR r1 r2 c1 c2 xs1 s2 xwr fi q6 q7 bd_17 hfi (Pn_20 + 1) bd_34 bd_35 b6 n6 g6 hn6 b7 n7 g7 hn7 gn6 hz6 gn7 hz7 e1 dd bd_1 ih H.size) (cwV 1 hts (kG (List.forall_mem_cons.mpr ⟨(List.mem_cons_of_mem _ (List.mem_append_left _ (List.mem_of_getElem? (i := 28) rfl))), (List.forall_mem_cons.mpr ⟨(List.mem_cons_of_mem _ (List.mem_append_left _ (List.mem_of_getElem? (i := 27) rfl))), (List.forall_mem_cons.mpr ⟨(List.mem_cons_of_mem _ (List.mem_append_left _ (List.mem_of_getElem? (i := 26) rfl))), (List.forall_mem_cons.mpr ⟨(List.mem_cons_of_mem _ (List.mem_append_left _ (List.mem_of_getElem? (i := 0) rfl))), (fun _ h => absurd h List.not_mem_nil)⟩)⟩)⟩)⟩) (kGV _ _ _ _) (kFam (List.mem_cons_of_mem _ (List.mem_append_left _ (List.mem_of_getElem? (i := 25) rfl)))) gw_s_term4x_g) rfl rfl rfl ⟨rfl, hd_X4_readTerm⟩ ⟨(show (7 + 6 * (e1 + 1)) + 1 ≤ (8 + 6 * (e1 + 1)) from by omega), (show 8 + (4 + 11) + 60 * (7 + 6 * (e1 + 1)) ≤ 60 * (8 + 6 * (e1 + 1)) from by omega)⟩) (kW_V kS2_blind (kS2_give hX hS hFc) (va_recv hKc hPc (ci := 4) (q0 := 0) rfl rfl) hPc hKc hDc) rfl rfl hl.1 rfl (lv_room (Nat.le_of_ble_eq_true rfl)) dX4_readSum_53 ⟨(Nat.le_of_ble_eq_true rfl), (Nat.le_of_ble_eq_true rfl)⟩) hS (fun q _ h => hFc q h) hFc (fun r_36 => kU5 (fun S1_37 Wr_38 Pn_39 xo_40 xl_41 t H_42 locs ht hvm hw hB hz1 hk1 hS => ?_))
            try dsimp only at hw
            have hPD : kPD dC dI A [(jR, .inr (4, [.ref jT, .ref r1, .ref r2, .int (nI (Wr_38)), .int (nI (fi)), .int (nI (Pn_39)), .ref q6, .ref q7])), (r1, .inl (c1, 120, .inl S1_37)), (r2, .inl (c2, 124, .inl s2)), (jT, .inr (8, [.ref t0, .int (nI (kt))])), (t0, .inl (cC, 120, .inl gT))] H_42 := kJoinX hP hD [0, 1, 2, 3, 4] rfl hk1 hFc hB.1 ht hB.2.2 rfl [some 0, some 1, some 2, some 3, some 4] rfl rfl
            have hP := hPD.1
            have hD := hPD.2
            have hw_43 := hw
            refine lv_if_eq (tgt := 71) hx hb dX4_readSum_56 kc_t_56_15 (fun c_44 => ?_) (fun c_44 => ?_)
            · obtain rfl : xo_40 = false := kBo_f (kZr9 hw_43.1 c_44)
              have hw_43_k := hw_43.2.1.2.1
              refine lv_iconst (v := 0) hx hb dX4_readSum_71 kc_i_0 ?_
              have hP9 := hP
              have hD9 := hD
              have hK9 := hK
              rw [hQ]
              exact W.zret (v := 0) hx hb hr rfl (fun t ht hW => ⟨⟨0, (S1_37, Wr_38, Pn_39, false, ([])), rfl, ⟨rfl, kPR_f (by rw [← ivk_11_3, show 120 - i = (119 - i) + 1 by omega]; exact kLoop_f (by rw [← hw_23_0]; omega) (by rw [← hw_23_1]; exact hw_43.2.1.1)) (by omega), by omega⟩,  by rw [ht]; exact hP9, va_K.moved hW.alike hK9, hD9⟩, hS.F ht⟩) hS.2.2 dX4_readSum_72
            · obtain rfl : xo_40 = true := kBo_t (kNz9 hw_43.1 c_44)
              obtain ⟨hw_43_W, hw_43_S, hw_43_l, hw_43_p⟩ := hw_43.2.1.2.2 rfl
              have hw_43_k := hw_43.2.1.2.1
              refine lv_aload_n hx hb dX4_readSum_59 rfl (lv_at hl 2 rfl) ?_
              refine lv_sipush (v := 20000) hx hb dX4_readSum_60 kc_s_20000 ?_
              refine lv_iload_n hx hb dX4_readSum_63 rfl (lv_at hl 0 rfl) ?_
              refine lv_iadd hx hb dX4_readSum_64 ?_
              refine lv_topi (fun y_45 ey_45 => ?_)
              obtain rfl : y_45 = nI (20000 + ch_21) := ey_45.trans (nI_add (20000) (ch_21))
              have bd_46 : Wr_38 ≤ 120 := by omega
              have bd_47 : Pn_39 ≤ kt := by omega
              have bd_48 : Wr_38 < 120 := by omega
              have hCu := kCut (wc := [(jR, .inr (4, [.ref jT, .ref r1, .ref r2, .int (nI (Wr_38)), .int (nI (fi)), .int (nI (Pn_39)), .ref q6, .ref q7])), (r1, .inl (c1, 120, .inl S1_37)), (r2, .inl (c2, 124, .inl s2)), (jT, .inr (8, [.ref t0, .int (nI (kt))])), (t0, .inl (cC, 120, .inl gT))]) hP hD hS hA [0, 1, 2, 3, 4] rfl kc_nd_311 rfl
              have hPc := hCu.1
              have hDc := hCu.2.1
              have hFc := hCu.2.2
              have hKc := hK.sb (tys2 := [(c1, .int), (c2, .int), (cC, .char)]) [0, 1, 2] rfl
              refine va_calli (va_runV (As := [.int (nI (20000 + ch_21))]) (rest := []) ⟨hx, hb, hml, hown, hts⟩ (s_write4x l dC dI jT t0 cC gT kt hkt hgT bt hbt hb8 jR r1 r2 c1 c2 S1_37 s2 Wr_38 fi q6 q7 bd_46 hfi Pn_39 bd_47 (nI (20000 + ch_21)) bd_48 H_42.size) (cwV 1 hts (kG (List.forall_mem_cons.mpr ⟨(List.mem_cons_of_mem _ (List.mem_append_left _ (List.mem_of_getElem? (i := 14) rfl))), (List.forall_mem_cons.mpr ⟨(List.mem_cons_of_mem _ (List.mem_append_left _ (List.mem_of_getElem? (i := 13) rfl))), (List.forall_mem_cons.mpr ⟨(List.mem_cons_of_mem _ (List.mem_append_left _ (List.mem_of_getElem? (i := 12) rfl))), (List.forall_mem_cons.mpr ⟨(List.mem_cons_of_mem _ (List.mem_append_left _ (List.mem_of_getElem? (i := 0) rfl))), (fun _ h => absurd h List.not_mem_nil)⟩)⟩)⟩)⟩) (kGV _ _ _ _) (fun _ h => List.mem_cons_of_mem _ (List.mem_append_right _ (List.mem_append_right _ (List.mem_append_right _ (List.mem_append_right _ (List.mem_append_right _ (List.mem_append_left _ h))))))) gw_s_write4x) rfl rfl rfl ⟨rfl, hd_X4_write⟩ ⟨(show 1 + 1 ≤ (8 + 6 * (e1 + 1)) from by omega), (show 8 + (2 + 11) + 60 * 1 ≤ 60 * (8 + 6 * (e1 + 1)) from by omega)⟩) (kW_V kT_blind kT_give (va_recv hKc hPc (ci := 4) (q0 := 0) rfl rfl) hPc hKc hDc) rfl rfl hl.1 rfl (lv_room (Nat.le_of_ble_eq_true rfl)) dX4_readSum_65 ⟨(Nat.le_of_ble_eq_true rfl), (Nat.le_of_ble_eq_true rfl)⟩) hS (fun q _ h => hFc q h) hFc (fun r_49 => kU2 (fun S1_50 Wr_51 t H_52 locs ht hvm hw hB hz1 hk1 hS => ?_))
              try dsimp only at hw
              have hPD : kPD dC dI A [(jR, .inr (4, [.ref jT, .ref r1, .ref r2, .int (nI (Wr_51)), .int (nI (fi)), .int (nI (Pn_39)), .ref q6, .ref q7])), (r1, .inl (c1, 120, .inl S1_50)), (r2, .inl (c2, 124, .inl s2)), (jT, .inr (8, [.ref t0, .int (nI (kt))])), (t0, .inl (cC, 120, .inl gT))] H_52 := kJoinX hP hD [0, 1, 2, 3, 4] rfl hk1 hFc hB.1 ht hB.2.2 rfl [some 0, some 1, some 2, some 3, some 4] rfl rfl
              have hP := hPD.1
              have hD := hPD.2
              obtain ⟨rfl, hw_53⟩ := hw
              refine lv_if_ne (tgt := 73) hx hb dX4_readSum_68 kc_t_68_5 (fun c_54 => ?_) (fun c_54 => absurd c_54 (by decide))
              refine lv_iinc (v := nI (i + 1)) hx hb dX4_readSum_73 hl (k := 1) rfl (kInc _ 1) kc_l_2_4 (kTo [(2, .int (nI (i + 1))), (3, .int (nI (ch_21))), (0, .ref jR), (1, .int (nI (dd)))]) (fun ls hl => ?_)
              refine lv_goto (tgt := 12) hx hb dX4_readSum_76 kc_t_76_m64 ?_
              exact ih_k_11 (i + 1) S1_50 Pn_39 Wr_51 (xl ++ xl_41 ++ [nI (20000 + ch_21)]) (by omega) (by omega) (by omega) (by have e9 := kLoop_t (b := bt) (n := kt) (c1 := 43) (c2 := 45) (a := kTermD bt kt g7 n7 (e1 + 1)) (f := 120 - (i + 1)) (p := xpn) (l := xl) (by rw [← hw_23_0]; omega) (by rw [← hw_23_1]; exact hw_43.2.1.1); rw [← hw_23_0] at e9; rw [← e9, show (120 - (i + 1)) + 1 = 120 - i by omega]; exact ivk_11_3) (by simp only [List.length_append, List.length_cons, List.length_nil]; omega) (kWrt3 ivk_11_5 ivk_11_4 hw_43_S hw_43_W hw_53.2) (by simp only [List.length_append, List.length_cons, List.length_nil]; omega) (by omega) _ _ hP hD hS ls (lv_sub hl [0, 2, 3] rfl) (by omega)
          · have bd_56 : ch_21 < 2147483648 := by omega
            have hn_55 := kneq (a := ch_21) (b := 43) bd_56 kc_31_43 c_24
            refine lv_aload_n hx hb dX4_readSum_27 rfl (lv_at hl 1 rfl) ?_
            have bd_57 : Pn_20 ≤ kt := by omega
            have hCu := kCut (wc := [(jR, .inr (4, [.ref jT, .ref r1, .ref r2, .int (nI (xwr)), .int (nI (fi)), .int (nI (Pn_20)), .ref q6, .ref q7])), (r1, .inl (c1, 120, .inl xs1)), (r2, .inl (c2, 124, .inl s2)), (jT, .inr (8, [.ref t0, .int (nI (kt))])), (t0, .inl (cC, 120, .inl gT))]) hP hD hS hA [0, 1, 2, 3, 4] rfl kc_nd_311 rfl
            have hPc := hCu.1
            have hDc := hCu.2.1
            have hFc := hCu.2.2
            have hKc := hK.sb (tys2 := [(c1, .int), (c2, .int), (cC, .char)]) [0, 1, 2] rfl
            refine va_calli (va_runV (As := []) (rest := []) ⟨hx, hb, hml, hown, hts⟩ (s_look4x l dC dI jT t0 cC gT kt hkt hgT bt hbt hb8 jR r1 r2 c1 c2 xs1 s2 xwr fi q6 q7 bd_17 hfi Pn_20 bd_57 H_22.size) (cwV 0 hts (kG (List.forall_mem_cons.mpr ⟨(List.mem_cons_of_mem _ (List.mem_append_left _ (List.mem_of_getElem? (i := 3) rfl))), (List.forall_mem_cons.mpr ⟨(List.mem_cons_of_mem _ (List.mem_append_left _ (List.mem_of_getElem? (i := 2) rfl))), (List.forall_mem_cons.mpr ⟨(List.mem_cons_of_mem _ (List.mem_append_left _ (List.mem_of_getElem? (i := 1) rfl))), (List.forall_mem_cons.mpr ⟨(List.mem_cons_of_mem _ (List.mem_append_left _ (List.mem_of_getElem? (i := 0) rfl))), (fun _ h => absurd h List.not_mem_nil)⟩)⟩)⟩)⟩) (kGV _ _ _ _) (fun _ h => List.mem_cons_of_mem _ (List.mem_append_right _ (List.mem_append_left _ h))) gw_s_look4x) rfl rfl rfl ⟨rfl, hd_X4_look⟩ ⟨(show 2 + 1 ≤ (8 + 6 * (e1 + 1)) from by omega), (show 8 + (2 + 11) + 60 * 2 ≤ 60 * (8 + 6 * (e1 + 1)) from by omega)⟩) (kW_V kT_blind kT_give (va_recv hKc hPc (ci := 4) (q0 := 0) rfl rfl) hPc hKc hDc) rfl rfl hl.1 rfl (lv_room (Nat.le_of_ble_eq_true rfl)) dX4_readSum_28 ⟨(Nat.le_of_ble_eq_true rfl), (Nat.le_of_ble_eq_true rfl)⟩) hS (fun q _ h => hFc q h) hFc (fun r_58 => kU2 (fun Pn_59 ch_60 t H_61 locs ht hvm hw hB hz1 hk1 hS => ?_))
            try dsimp only at hw
            have hPD : kPD dC dI A [(jR, .inr (4, [.ref jT, .ref r1, .ref r2, .int (nI (xwr)), .int (nI (fi)), .int (nI (Pn_59)), .ref q6, .ref q7])), (r1, .inl (c1, 120, .inl xs1)), (r2, .inl (c2, 124, .inl s2)), (jT, .inr (8, [.ref t0, .int (nI (kt))])), (t0, .inl (cC, 120, .inl gT))] H_61 := kJoinX hP hD [0, 1, 2, 3, 4] rfl hk1 hFc hB.1 ht hB.2.2 rfl [some 0, some 1, some 2, some 3, some 4] rfl rfl
            have hP := hPD.1
            have hD := hPD.2
            obtain ⟨rfl, hw_62_0, hw_62_1, hw_62_2, hw_62_3, hw_62_4, hw_62_5, hw_62_6⟩ := hw
            have e9 : Pn_20 = Pn_59 := by rw [hw_62_1, hw_23_1]; exact (kSp_sp (by omega)).symm
            have e8 : ch_21 = ch_60 := by rw [hw_62_0, hw_23_0, hw_23_1]; exact (kLk_sp (by omega)).symm
            subst e9
            subst e8
            refine lv_bipush (v := 45) hx hb dX4_readSum_31 kc_b_45 ?_
            refine lv_icmp_ne (tgt := 79) hx hb dX4_readSum_33 kc_t_33_46 (fun c_63 => ?_) (fun c_63 => ?_)
            · have hn_64 := kneq (a := ch_21) (b := 45) bd_56 kc_31_45 c_63
              refine lv_iconst (v := 1) hx hb dX4_readSum_79 kc_i_1 ?_
              have hP9 := hP
              have hD9 := hD
              have hK9 := hK
              rw [hQ]
              exact W.zret (v := 1) hx hb hr rfl (fun t ht hW => ⟨⟨1, (xs1, xwr, Pn_20, true, xl), rfl, ⟨rfl, kPR_t (a := kSumD bt kt g7 n7 (e1 + 1)) rfl (kSumD_good hz7 (e1 + 1)) (by omega) (by rw [← ivk_11_3, show 120 - i = (119 - i) + 1 by omega, kLoop_e (by rw [← hw_23_0]; omega), ← hw_23_1]) ivk_11_4 ivk_11_5, by omega⟩,  by rw [ht]; exact hP9, va_K.moved hW.alike hK9, hD9⟩, hS.F ht⟩) hS.2.2 dX4_readSum_80
            · have hn_65 := keq (a := ch_21) (b := 45) bd_56 kc_31_45 c_63
              refine lv_aload_n hx hb dX4_readSum_36 rfl (lv_at hl 1 rfl) ?_
              have hCu := kCut (wc := [(jR, .inr (4, [.ref jT, .ref r1, .ref r2, .int (nI (xwr)), .int (nI (fi)), .int (nI (Pn_20)), .ref q6, .ref q7])), (r1, .inl (c1, 120, .inl xs1)), (r2, .inl (c2, 124, .inl s2)), (jT, .inr (8, [.ref t0, .int (nI (kt))])), (t0, .inl (cC, 120, .inl gT))]) hP hD hS hA [0, 1, 2, 3, 4] rfl kc_nd_311 rfl
              have hPc := hCu.1
              have hDc := hCu.2.1
              have hFc := hCu.2.2
              have hKc := hK.sb (tys2 := [(c1, .int), (c2, .int), (cC, .char)]) [0, 1, 2] rfl
              refine va_calli (va_runV (As := []) (rest := []) ⟨hx, hb, hml, hown, hts⟩ (s_look4x l dC dI jT t0 cC gT kt hkt hgT bt hbt hb8 jR r1 r2 c1 c2 xs1 s2 xwr fi q6 q7 bd_17 hfi Pn_20 bd_57 H_61.size) (cwV 0 hts (kG (List.forall_mem_cons.mpr ⟨(List.mem_cons_of_mem _ (List.mem_append_left _ (List.mem_of_getElem? (i := 3) rfl))), (List.forall_mem_cons.mpr ⟨(List.mem_cons_of_mem _ (List.mem_append_left _ (List.mem_of_getElem? (i := 2) rfl))), (List.forall_mem_cons.mpr ⟨(List.mem_cons_of_mem _ (List.mem_append_left _ (List.mem_of_getElem? (i := 1) rfl))), (List.forall_mem_cons.mpr ⟨(List.mem_cons_of_mem _ (List.mem_append_left _ (List.mem_of_getElem? (i := 0) rfl))), (fun _ h => absurd h List.not_mem_nil)⟩)⟩)⟩)⟩) (kGV _ _ _ _) (fun _ h => List.mem_cons_of_mem _ (List.mem_append_right _ (List.mem_append_left _ h))) gw_s_look4x) rfl rfl rfl ⟨rfl, hd_X4_look⟩ ⟨(show 2 + 1 ≤ (8 + 6 * (e1 + 1)) from by omega), (show 8 + (2 + 11) + 60 * 2 ≤ 60 * (8 + 6 * (e1 + 1)) from by omega)⟩) (kW_V kT_blind kT_give (va_recv hKc hPc (ci := 4) (q0 := 0) rfl rfl) hPc hKc hDc) rfl rfl hl.1 rfl (lv_room (Nat.le_of_ble_eq_true rfl)) dX4_readSum_37 ⟨(Nat.le_of_ble_eq_true rfl), (Nat.le_of_ble_eq_true rfl)⟩) hS (fun q _ h => hFc q h) hFc (fun r_66 => kU2 (fun Pn_67 ch_68 t H_69 locs ht hvm hw hB hz1 hk1 hS => ?_))
              try dsimp only at hw
              have hPD : kPD dC dI A [(jR, .inr (4, [.ref jT, .ref r1, .ref r2, .int (nI (xwr)), .int (nI (fi)), .int (nI (Pn_67)), .ref q6, .ref q7])), (r1, .inl (c1, 120, .inl xs1)), (r2, .inl (c2, 124, .inl s2)), (jT, .inr (8, [.ref t0, .int (nI (kt))])), (t0, .inl (cC, 120, .inl gT))] H_69 := kJoinX hP hD [0, 1, 2, 3, 4] rfl hk1 hFc hB.1 ht hB.2.2 rfl [some 0, some 1, some 2, some 3, some 4] rfl rfl
              have hP := hPD.1
              have hD := hPD.2
              obtain ⟨rfl, hw_70_0, hw_70_1, hw_70_2, hw_70_3, hw_70_4, hw_70_5, hw_70_6⟩ := hw
              have e9 : Pn_20 = Pn_67 := by rw [hw_70_1, hw_23_1]; exact (kSp_sp (by omega)).symm
              have e8 : ch_21 = ch_68 := by rw [hw_70_0, hw_23_0, hw_23_1]; exact (kLk_sp (by omega)).symm
              subst e9
              subst e8
              refine lv_istore_n hx hb dX4_readSum_40 rfl hl kc_l_3_4 (kTo [(3, .int (nI (ch_21))), (2, .int (nI (i))), (0, .ref jR), (1, .int (nI (dd)))]) (fun ls hl => ?_)
              refine lv_aload_n hx hb dX4_readSum_41 rfl (lv_at hl 2 rfl) ?_
              refine lv_dup hx hb dX4_readSum_42 rfl ?_
              refine va_get (D := (dC, dI)) (ci := 4) (v := .int (nI (Pn_20))) (C := RX4) (T := TX4) (N := 8) hx hb hts (fun _ h => List.mem_cons_of_mem _ (List.mem_append_right _ (List.mem_append_right _ (List.mem_append_right _ (List.mem_append_left _ h))))) hown hK hP 0 rfl rfl 5 kc_l_5_8 (hts (.fieldLink RX4 25 "NotEnded$Reader" "place" "I") (List.mem_cons_of_mem _ (List.mem_append_left _ (List.mem_of_getElem? (i := 11) rfl)))) (fun _ h9 => h9) rfl dX4_readSum_43 ?_
              refine lv_iconst (v := 1) hx hb dX4_readSum_46 kc_i_1 ?_
              refine lv_iadd hx hb dX4_readSum_47 ?_
              refine lv_topi (fun y_71 ey_71 => ?_)
              obtain rfl : y_71 = nI (Pn_20 + 1) := ey_71.trans (nI_add (Pn_20) (1))
              refine va_put (D := (dC, dI)) (ci := 4) (v := .int (nI (Pn_20 + 1))) (ty := tyX4 5) (C := RX4) (T := TX4) (N := 8) hx hb hts (fun _ h => List.mem_cons_of_mem _ (List.mem_append_right _ (List.mem_append_right _ (List.mem_append_right _ (List.mem_append_left _ h))))) tyX4 tyX4_ok nmX4 hown hK hP hD hS 0 rfl rfl 5 kc_l_5_8 (hts (.fieldLink RX4 25 "NotEnded$Reader" "place" "I") (List.mem_cons_of_mem _ (List.mem_append_left _ (List.mem_of_getElem? (i := 11) rfl)))) (fun _ h9 => h9) rfl (tyX4_ok 5 kc_l_5_8) rfl rfl (Nat.le_of_ble_eq_true rfl) dX4_readSum_48 (fun H locs hP hD hS => ?_)
              have hPD : kPD dC dI A [(jR, .inr (4, [.ref jT, .ref r1, .ref r2, .int (nI (xwr)), .int (nI (fi)), .int (nI (Pn_20 + 1)), .ref q6, .ref q7])), (r1, .inl (c1, 120, .inl xs1)), (r2, .inl (c2, 124, .inl s2)), (jT, .inr (8, [.ref t0, .int (nI (kt))])), (t0, .inl (cC, 120, .inl gT))] H := ⟨hP, hD⟩
              have hP := hPD.1
              have hD := hPD.2
              refine lv_aload_n hx hb dX4_readSum_51 rfl (lv_at hl 2 rfl) ?_
              refine lv_iload_n hx hb dX4_readSum_52 rfl (lv_at hl 3 rfl) ?_
              have bd_72 : (Pn_20 + 1) ≤ kt := by omega
              have bd_73 : xwr ≤ (Pn_20 + 1) := by omega
              have hCu := kCut (wc := [(jR, .inr (4, [.ref jT, .ref r1, .ref r2, .int (nI (xwr)), .int (nI (fi)), .int (nI (Pn_20 + 1)), .ref q6, .ref q7])), (r1, .inl (c1, 120, .inl xs1)), (r2, .inl (c2, 124, .inl s2)), (jT, .inr (8, [.ref t0, .int (nI (kt))])), (t0, .inl (cC, 120, .inl gT))]) hP hD hS hA [0, 1, 2, 3, 4] rfl kc_nd_311 rfl
              have hPc := hCu.1
              have hDc := hCu.2.1
              have hFc := hCu.2.2
              have hKc := hK.sb (tys2 := [(c1, .int), (c2, .int), (cC, .char)]) [0, 1, 2] rfl
              refine va_calli (va_runV (As := [.int (nI (dd))]) (rest := []) ⟨hx, hb, hml, hown, hts⟩ (s_term4x_g l dC dI jT t0 cC gT kt hkt hgT bt hbt hb8 jR r1 r2 c1 c2 xs1 s2 xwr fi q6 q7 bd_17 hfi (Pn_20 + 1) bd_72 bd_73 b6 n6 g6 hn6 b7 n7 g7 hn7 gn6 hz6 gn7 hz7 e1 dd bd_1 ih H.size) (cwV 1 hts (kG (List.forall_mem_cons.mpr ⟨(List.mem_cons_of_mem _ (List.mem_append_left _ (List.mem_of_getElem? (i := 28) rfl))), (List.forall_mem_cons.mpr ⟨(List.mem_cons_of_mem _ (List.mem_append_left _ (List.mem_of_getElem? (i := 27) rfl))), (List.forall_mem_cons.mpr ⟨(List.mem_cons_of_mem _ (List.mem_append_left _ (List.mem_of_getElem? (i := 26) rfl))), (List.forall_mem_cons.mpr ⟨(List.mem_cons_of_mem _ (List.mem_append_left _ (List.mem_of_getElem? (i := 0) rfl))), (fun _ h => absurd h List.not_mem_nil)⟩)⟩)⟩)⟩) (kGV _ _ _ _) (kFam (List.mem_cons_of_mem _ (List.mem_append_left _ (List.mem_of_getElem? (i := 25) rfl)))) gw_s_term4x_g) rfl rfl rfl ⟨rfl, hd_X4_readTerm⟩ ⟨(show (7 + 6 * (e1 + 1)) + 1 ≤ (8 + 6 * (e1 + 1)) from by omega), (show 8 + (4 + 11) + 60 * (7 + 6 * (e1 + 1)) ≤ 60 * (8 + 6 * (e1 + 1)) from by omega)⟩) (kW_V kS2_blind (kS2_give hX hS hFc) (va_recv hKc hPc (ci := 4) (q0 := 0) rfl rfl) hPc hKc hDc) rfl rfl hl.1 rfl (lv_room (Nat.le_of_ble_eq_true rfl)) dX4_readSum_53 ⟨(Nat.le_of_ble_eq_true rfl), (Nat.le_of_ble_eq_true rfl)⟩) hS (fun q _ h => hFc q h) hFc (fun r_74 => kU5 (fun S1_75 Wr_76 Pn_77 xo_78 xl_79 t H_80 locs ht hvm hw hB hz1 hk1 hS => ?_))
              try dsimp only at hw
              have hPD : kPD dC dI A [(jR, .inr (4, [.ref jT, .ref r1, .ref r2, .int (nI (Wr_76)), .int (nI (fi)), .int (nI (Pn_77)), .ref q6, .ref q7])), (r1, .inl (c1, 120, .inl S1_75)), (r2, .inl (c2, 124, .inl s2)), (jT, .inr (8, [.ref t0, .int (nI (kt))])), (t0, .inl (cC, 120, .inl gT))] H_80 := kJoinX hP hD [0, 1, 2, 3, 4] rfl hk1 hFc hB.1 ht hB.2.2 rfl [some 0, some 1, some 2, some 3, some 4] rfl rfl
              have hP := hPD.1
              have hD := hPD.2
              have hw_81 := hw
              refine lv_if_eq (tgt := 71) hx hb dX4_readSum_56 kc_t_56_15 (fun c_82 => ?_) (fun c_82 => ?_)
              · obtain rfl : xo_78 = false := kBo_f (kZr9 hw_81.1 c_82)
                have hw_81_k := hw_81.2.1.2.1
                refine lv_iconst (v := 0) hx hb dX4_readSum_71 kc_i_0 ?_
                have hP9 := hP
                have hD9 := hD
                have hK9 := hK
                rw [hQ]
                exact W.zret (v := 0) hx hb hr rfl (fun t ht hW => ⟨⟨0, (S1_75, Wr_76, Pn_77, false, ([])), rfl, ⟨rfl, kPR_f (by rw [← ivk_11_3, show 120 - i = (119 - i) + 1 by omega]; exact kLoop_f (by rw [← hw_23_0]; omega) (by rw [← hw_23_1]; exact hw_81.2.1.1)) (by omega), by omega⟩,  by rw [ht]; exact hP9, va_K.moved hW.alike hK9, hD9⟩, hS.F ht⟩) hS.2.2 dX4_readSum_72
              · obtain rfl : xo_78 = true := kBo_t (kNz9 hw_81.1 c_82)
                obtain ⟨hw_81_W, hw_81_S, hw_81_l, hw_81_p⟩ := hw_81.2.1.2.2 rfl
                have hw_81_k := hw_81.2.1.2.1
                refine lv_aload_n hx hb dX4_readSum_59 rfl (lv_at hl 2 rfl) ?_
                refine lv_sipush (v := 20000) hx hb dX4_readSum_60 kc_s_20000 ?_
                refine lv_iload_n hx hb dX4_readSum_63 rfl (lv_at hl 0 rfl) ?_
                refine lv_iadd hx hb dX4_readSum_64 ?_
                refine lv_topi (fun y_83 ey_83 => ?_)
                obtain rfl : y_83 = nI (20000 + ch_21) := ey_83.trans (nI_add (20000) (ch_21))
                have bd_84 : Wr_76 ≤ 120 := by omega
                have bd_85 : Pn_77 ≤ kt := by omega
                have bd_86 : Wr_76 < 120 := by omega
                have hCu := kCut (wc := [(jR, .inr (4, [.ref jT, .ref r1, .ref r2, .int (nI (Wr_76)), .int (nI (fi)), .int (nI (Pn_77)), .ref q6, .ref q7])), (r1, .inl (c1, 120, .inl S1_75)), (r2, .inl (c2, 124, .inl s2)), (jT, .inr (8, [.ref t0, .int (nI (kt))])), (t0, .inl (cC, 120, .inl gT))]) hP hD hS hA [0, 1, 2, 3, 4] rfl kc_nd_311 rfl
                have hPc := hCu.1
                have hDc := hCu.2.1
                have hFc := hCu.2.2
                have hKc := hK.sb (tys2 := [(c1, .int), (c2, .int), (cC, .char)]) [0, 1, 2] rfl
                refine va_calli (va_runV (As := [.int (nI (20000 + ch_21))]) (rest := []) ⟨hx, hb, hml, hown, hts⟩ (s_write4x l dC dI jT t0 cC gT kt hkt hgT bt hbt hb8 jR r1 r2 c1 c2 S1_75 s2 Wr_76 fi q6 q7 bd_84 hfi Pn_77 bd_85 (nI (20000 + ch_21)) bd_86 H_80.size) (cwV 1 hts (kG (List.forall_mem_cons.mpr ⟨(List.mem_cons_of_mem _ (List.mem_append_left _ (List.mem_of_getElem? (i := 14) rfl))), (List.forall_mem_cons.mpr ⟨(List.mem_cons_of_mem _ (List.mem_append_left _ (List.mem_of_getElem? (i := 13) rfl))), (List.forall_mem_cons.mpr ⟨(List.mem_cons_of_mem _ (List.mem_append_left _ (List.mem_of_getElem? (i := 12) rfl))), (List.forall_mem_cons.mpr ⟨(List.mem_cons_of_mem _ (List.mem_append_left _ (List.mem_of_getElem? (i := 0) rfl))), (fun _ h => absurd h List.not_mem_nil)⟩)⟩)⟩)⟩) (kGV _ _ _ _) (fun _ h => List.mem_cons_of_mem _ (List.mem_append_right _ (List.mem_append_right _ (List.mem_append_right _ (List.mem_append_right _ (List.mem_append_right _ (List.mem_append_left _ h))))))) gw_s_write4x) rfl rfl rfl ⟨rfl, hd_X4_write⟩ ⟨(show 1 + 1 ≤ (8 + 6 * (e1 + 1)) from by omega), (show 8 + (2 + 11) + 60 * 1 ≤ 60 * (8 + 6 * (e1 + 1)) from by omega)⟩) (kW_V kT_blind kT_give (va_recv hKc hPc (ci := 4) (q0 := 0) rfl rfl) hPc hKc hDc) rfl rfl hl.1 rfl (lv_room (Nat.le_of_ble_eq_true rfl)) dX4_readSum_65 ⟨(Nat.le_of_ble_eq_true rfl), (Nat.le_of_ble_eq_true rfl)⟩) hS (fun q _ h => hFc q h) hFc (fun r_87 => kU2 (fun S1_88 Wr_89 t H_90 locs ht hvm hw hB hz1 hk1 hS => ?_))
                try dsimp only at hw
                have hPD : kPD dC dI A [(jR, .inr (4, [.ref jT, .ref r1, .ref r2, .int (nI (Wr_89)), .int (nI (fi)), .int (nI (Pn_77)), .ref q6, .ref q7])), (r1, .inl (c1, 120, .inl S1_88)), (r2, .inl (c2, 124, .inl s2)), (jT, .inr (8, [.ref t0, .int (nI (kt))])), (t0, .inl (cC, 120, .inl gT))] H_90 := kJoinX hP hD [0, 1, 2, 3, 4] rfl hk1 hFc hB.1 ht hB.2.2 rfl [some 0, some 1, some 2, some 3, some 4] rfl rfl
                have hP := hPD.1
                have hD := hPD.2
                obtain ⟨rfl, hw_91⟩ := hw
                refine lv_if_ne (tgt := 73) hx hb dX4_readSum_68 kc_t_68_5 (fun c_92 => ?_) (fun c_92 => absurd c_92 (by decide))
                refine lv_iinc (v := nI (i + 1)) hx hb dX4_readSum_73 hl (k := 1) rfl (kInc _ 1) kc_l_2_4 (kTo [(2, .int (nI (i + 1))), (3, .int (nI (ch_21))), (0, .ref jR), (1, .int (nI (dd)))]) (fun ls hl => ?_)
                refine lv_goto (tgt := 12) hx hb dX4_readSum_76 kc_t_76_m64 ?_
                exact ih_k_11 (i + 1) S1_88 Pn_77 Wr_89 (xl ++ xl_79 ++ [nI (20000 + ch_21)]) (by omega) (by omega) (by omega) (by have e9 := kLoop_t (b := bt) (n := kt) (c1 := 43) (c2 := 45) (a := kTermD bt kt g7 n7 (e1 + 1)) (f := 120 - (i + 1)) (p := xpn) (l := xl) (by rw [← hw_23_0]; omega) (by rw [← hw_23_1]; exact hw_81.2.1.1); rw [← hw_23_0] at e9; rw [← e9, show (120 - (i + 1)) + 1 = 120 - i by omega]; exact ivk_11_3) (by simp only [List.length_append, List.length_cons, List.length_nil]; omega) (kWrt3 ivk_11_5 ivk_11_4 hw_81_S hw_81_W hw_91.2) (by simp only [List.length_append, List.length_cons, List.length_nil]; omega) (by omega) _ _ hP hD hS ls (lv_sub hl [0, 2, 3] rfl) (by omega)
    exact lp_k_11 (120 - 0 + 1) 0 S1_3 Pn_5 Wr_4 xl_7 (by omega) (by omega) (by omega) (kMany_t hw_9.2.1.1).symm hw_9_W hw_9_S hw_9_l hw_9_p _ _ hP hD hS ls (lv_sub hl [0, 1, 2] rfl) (by omega)
  · obtain rfl : xo_6 = false := kBo_f (kZr9 hw_9.1 c_10)
    have hw_9_k := hw_9.2.1.2.1
    refine lv_iconst (v := 0) hx hb dX4_readSum_8 kc_i_0 ?_
    have hP9 := hP
    have hD9 := hD
    have hK9 := hK
    rw [hQ]
    exact W.zret (v := 0) hx hb hr rfl (fun t ht hW => ⟨⟨0, (S1_3, Wr_4, Pn_5, false, ([])), rfl, ⟨rfl, kPR_f (kMany_f hw_9.2.1.1) (by omega), by omega⟩,  by rw [ht]; exact hP9, va_K.moved hW.alike hK9, hD9⟩, hS.F ht⟩) hS.2.2 dX4_readSum_9

theorem dX4_readUnit_64 : decode cX4_readUnit 64 = .ok (.aload_n 0, 1) := kDs0 kf_42 (by decide +kernel)
theorem dX4_readUnit_65 : decode cX4_readUnit 65 = .ok (.iload_n 1, 1) := kDs0 kf_27 (by decide +kernel)
theorem dX4_readUnit_66 : decode cX4_readUnit 66 = .ok (.iconst 1, 1) := kDs0 kf_4 (by decide +kernel)
theorem dX4_readUnit_67 : decode cX4_readUnit 67 = .ok (.iadd, 1) := kDs0 kf_96 (by decide +kernel)
theorem dX4_readUnit_68 : decode cX4_readUnit 68 = .ok (.iconst 0, 1) := kDs0 kf_3 (by decide +kernel)
theorem dX4_readUnit_69 : decode cX4_readUnit 69 = .ok (.invokevirtual 89, 3) := kDs2 kf_182 (by decide +kernel)
theorem dX4_readUnit_72 : decode cX4_readUnit 72 = .ok (.ifCond .eq 16, 3) := kDs4 kf_153 (by decide +kernel)
theorem dX4_readUnit_75 : decode cX4_readUnit 75 = .ok (.aload_n 0, 1) := kDs0 kf_42 (by decide +kernel)
theorem dX4_readUnit_76 : decode cX4_readUnit 76 = .ok (.bipush 41, 2) := kDs3 kf_16 (by decide +kernel)
theorem dX4_readUnit_78 : decode cX4_readUnit 78 = .ok (.invokevirtual 57, 3) := kDs2 kf_182 (by decide +kernel)
theorem dX4_readUnit_81 : decode cX4_readUnit 81 = .ok (.ifCond .eq 7, 3) := kDs4 kf_153 (by decide +kernel)
theorem dX4_readUnit_84 : decode cX4_readUnit 84 = .ok (.iconst 1, 1) := kDs0 kf_4 (by decide +kernel)
theorem dX4_readUnit_85 : decode cX4_readUnit 85 = .ok (.goto 4, 3) := kDs4 kf_167 (by decide +kernel)
theorem dX4_readUnit_23 : decode cX4_readUnit 23 = .ok (.aload_n 0, 1) := kDs0 kf_42 (by decide +kernel)
theorem dX4_readUnit_24 : decode cX4_readUnit 24 = .ok (.iload_n 1, 1) := kDs0 kf_27 (by decide +kernel)
theorem dX4_readUnit_25 : decode cX4_readUnit 25 = .ok (.iconst 1, 1) := kDs0 kf_4 (by decide +kernel)
theorem dX4_readUnit_26 : decode cX4_readUnit 26 = .ok (.iadd, 1) := kDs0 kf_96 (by decide +kernel)
theorem dX4_readUnit_27 : decode cX4_readUnit 27 = .ok (.iconst 0, 1) := kDs0 kf_3 (by decide +kernel)
theorem dX4_readUnit_28 : decode cX4_readUnit 28 = .ok (.invokevirtual 99, 3) := kDs2 kf_182 (by decide +kernel)
theorem dX4_readUnit_31 : decode cX4_readUnit 31 = .ok (.ifCond .eq 17, 3) := kDs4 kf_153 (by decide +kernel)
theorem dX4_readUnit_34 : decode cX4_readUnit 34 = .ok (.aload_n 0, 1) := kDs0 kf_42 (by decide +kernel)
theorem dX4_readUnit_35 : decode cX4_readUnit 35 = .ok (.sipush 20033, 3) := kDs4 kf_17 (by decide +kernel)
theorem dX4_readUnit_38 : decode cX4_readUnit 38 = .ok (.invokevirtual 96, 3) := kDs2 kf_182 (by decide +kernel)
theorem dX4_readUnit_41 : decode cX4_readUnit 41 = .ok (.ifCond .eq 7, 3) := kDs4 kf_153 (by decide +kernel)
theorem dX4_readUnit_44 : decode cX4_readUnit 44 = .ok (.iconst 1, 1) := kDs0 kf_4 (by decide +kernel)
theorem dX4_readUnit_45 : decode cX4_readUnit 45 = .ok (.goto 4, 3) := kDs4 kf_167 (by decide +kernel)
def w_s_unit4x_g_0 : List Cond := .code yX4_readUnit cX4_readUnit 4 (some .boolean) :: wf_rq
theorem gw_s_unit4x_g_0 : (w_s_unit4x_g_0).all goodWord = true := kFamG rfl gf_rq
set_option maxHeartbeats 4000000 in
set_option maxRecDepth 100000 in
theorem s_unit4x_g_0 (l : Launch) (dC : Nat → ClassId) (dI : Nat → Nat → Nat) (jT : Nat) (t0 : Nat) (cC : ClassId) (gT : Nat → Int32) (kt : Nat) (hkt : kt ≤ 120) (hgT : ∀ j : Nat, narrow .char (.int (gT j)) = .int (gT j)) (bt : Nat → Nat) (hbt : ∀ j : Nat, gT j = nI (bt j)) (hb8 : ∀ j : Nat, bt j < 256) (jR : Nat) (r1 : Nat) (r2 : Nat) (c1 : ClassId) (c2 : ClassId) (s1 : Nat → Int32) (s2 : Nat → Int32) (wr : Nat) (fi : Nat) (q6 : Nat) (q7 : Nat) (hwr : wr ≤ 120) (hfi : fi ≤ 124) (pn : Nat) (hpn : pn ≤ kt) (hwp : wr ≤ pn) (b6 : Nat) (n6 : Nat) (g6 : Nat → Int32) (hn6 : n6 ≤ 8) (b7 : Nat) (n7 : Nat) (g7 : Nat → Int32) (hn7 : n7 ≤ 8) (gn6 : ∀ k : Nat, ∃ v : Nat, v < 128 ∧ g6 k = nI v) (hz6 : kIx g6 n6 (nI 0) = n6) (gn7 : ∀ k : Nat, ∃ v : Nat, v < 128 ∧ g7 k = nI v) (hz7 : kIx g7 n7 (nI 0) = n7) (e1 : Nat) (dd : Nat) (hdd : dd + e1 = 5) (ih : kIHq e1) (sz : Nat) : Met l yX4_readUnit w_s_unit4x_g_0 ({ frames := (9 + 6 * (e1 + 1)), cells := 0, slots := 0, locals := 60 * (9 + 6 * (e1 + 1)) }) (kW dC dI [.ref jR, .int (nI (dd)), .int 0] [(jR, .inr (4, [.ref jT, .ref r1, .ref r2, .int (nI (wr)), .int (nI (fi)), .int (nI (pn)), .ref q6, .ref q7])), (r1, .inl (c1, 120, .inl s1)), (r2, .inl (c2, 124, .inl s2)), (jT, .inr (8, [.ref t0, .int (nI (kt))])), (t0, .inl (cC, 120, .inl gT))] [(c1, .int), (c2, .int), (cC, .char)] (kS2 q6 b6 n6 g6 q7 b7 n7 g7 (va_A [(jR, .inr (4, [.ref jT, .ref r1, .ref r2, .int (nI (wr)), .int (nI (fi)), .int (nI (pn)), .ref q6, .ref q7])), (r1, .inl (c1, 120, .inl s1)), (r2, .inl (c2, 124, .inl s2)), (jT, .inr (8, [.ref t0, .int (nI (kt))])), (t0, .inl (cC, 120, .inl gT))] sz)) sz) (va_Qi (fun (r : Int32) (u : (Nat → Int32) × Nat × Nat × Bool × (List Int32)) => match u with | (S1, Wr, Pn, xo, xl) => (r = kBo xo ∧ kPR (kUnitD bt kt g7 n7 (e1 + 1) pn) pn kt wr s1 xo Pn xl Wr S1 ∧ Wr ≤ 120)) (fun (u : (Nat → Int32) × Nat × Nat × Bool × (List Int32)) => match u with | (S1, Wr, Pn, xo, xl) => fun t : State => kB dC dI [(jR, .inr (4, [.ref jT, .ref r1, .ref r2, .int (nI (Wr)), .int (nI (fi)), .int (nI (Pn)), .ref q6, .ref q7])), (r1, .inl (c1, 120, .inl S1)), (r2, .inl (c2, 124, .inl s2)), (jT, .inr (8, [.ref t0, .int (nI (kt))])), (t0, .inl (cC, 120, .inl gT))] [(c1, .int), (c2, .int), (cC, .char)] (va_A [(jR, .inr (4, [.ref jT, .ref r1, .ref r2, .int (nI (wr)), .int (nI (fi)), .int (nI (pn)), .ref q6, .ref q7])), (r1, .inl (c1, 120, .inl s1)), (r2, .inl (c2, 124, .inl s2)), (jT, .inr (8, [.ref t0, .int (nI (kt))])), (t0, .inl (cC, 120, .inl gT))] sz) t) (va_A [(jR, .inr (4, [.ref jT, .ref r1, .ref r2, .int (nI (wr)), .int (nI (fi)), .int (nI (pn)), .ref q6, .ref q7])), (r1, .inl (c1, 120, .inl s1)), (r2, .inl (c2, 124, .inl s2)), (jT, .inr (8, [.ref t0, .int (nI (kt))])), (t0, .inl (cC, 120, .inl gT))] sz)) 0 0 (va_A [(jR, .inr (4, [.ref jT, .ref r1, .ref r2, .int (nI (wr)), .int (nI (fi)), .int (nI (pn)), .ref q6, .ref q7])), (r1, .inl (c1, 120, .inl s1)), (r2, .inl (c2, 124, .inl s2)), (jT, .inr (8, [.ref t0, .int (nI (kt))])), (t0, .inl (cC, 120, .inl gT))] sz) := by
  refine Met.ofW (cc := cX4_readUnit) (maxL := 4) (ret := (some .boolean)) (by decide) rfl ?_
  intro p e s m args below meth c s₁ B hml hv
  obtain ⟨rfl, hsz, hP, hK, hD0, hX⟩ := hv
  have hx := B.exec
  have hb := B.bytes
  have hr := B.returns
  have hts := atoms_spec (ws := w_s_unit4x_g_0) B.pre
  have hown : s.vm.findClass RX4 = some m.cls := findClass_of_methodNamed B.named
  have hlocks := B.notSynchronized
  subst hsz
  have hD := hD0.self (sz := s.heap.size)
  generalize hAe : va_A [(jR, .inr (4, [.ref jT, .ref r1, .ref r2, .int (nI (wr)), .int (nI (fi)), .int (nI (pn)), .ref q6, .ref q7])), (r1, .inl (c1, 120, .inl s1)), (r2, .inl (c2, 124, .inl s2)), (jT, .inr (8, [.ref t0, .int (nI (kt))])), (t0, .inl (cC, 120, .inl gT))] s.heap.size = A at hD hX ⊢
  have hA : ∀ q : Nat, s.heap.size ≤ q → A q := fun q h => by rw [← hAe]; exact Or.inr h
  have hS : va_S A s.heap s.heap [] := va_S.rf
  have hP : va_P (dC, dI) vwCl [(jR, .inr (4, [.ref jT, .ref r1, .ref r2, .int (nI (wr)), .int (nI (fi)), .int (nI (pn)), .ref q6, .ref q7])), (r1, .inl (c1, 120, .inl s1)), (r2, .inl (c2, 124, .inl s2)), (jT, .inr (8, [.ref t0, .int (nI (kt))])), (t0, .inl (cC, 120, .inl gT))] s.heap := hP
  have hl := lv_entry ([.ref jR, .int (nI (dd)), .int 0]) (n := 4) (Nat.le_of_ble_eq_true rfl)
  rw [lg_entry_eq]
  generalize (lg_sl ([.ref jR, .int (nI (dd)), .int 0]) ++ List.replicate (4 - (lg_sl ([.ref jR, .int (nI (dd)), .int 0])).length) Slot.unset).toArray = ls at hl ⊢
  have hl : lv_has ls 4 [(0, .ref jR), (1, .int (nI (dd))), (2, .int 0)] := hl
  refine kQ (fun Q hQ => ?_)
  refine lv_iload_n hx hb dX4_readUnit_0 rfl (lv_at hl 2 rfl) ?_
  refine lv_if_ne (tgt := 100) hx hb dX4_readUnit_1 kc_t_1_99 (fun c_1 => absurd (by decide) c_1) (fun c_1 => ?_)
  refine lv_aload_n hx hb dX4_readUnit_4 rfl (lv_at hl 0 rfl) ?_
  have hCu := kCut (wc := [(jR, .inr (4, [.ref jT, .ref r1, .ref r2, .int (nI (wr)), .int (nI (fi)), .int (nI (pn)), .ref q6, .ref q7])), (r1, .inl (c1, 120, .inl s1)), (r2, .inl (c2, 124, .inl s2)), (jT, .inr (8, [.ref t0, .int (nI (kt))])), (t0, .inl (cC, 120, .inl gT))]) hP hD hS hA [0, 1, 2, 3, 4] rfl kc_nd_311 rfl
  have hPc := hCu.1
  have hDc := hCu.2.1
  have hFc := hCu.2.2
  have hKc := hK.sb (tys2 := [(c1, .int), (c2, .int), (cC, .char)]) [0, 1, 2] rfl
  refine va_calli (va_runV (As := []) (rest := []) ⟨hx, hb, hml, hown, hts⟩ (s_look4x l dC dI jT t0 cC gT kt hkt hgT bt hbt hb8 jR r1 r2 c1 c2 s1 s2 wr fi q6 q7 hwr hfi pn hpn s.heap.size) (cwV 0 hts (kG (List.forall_mem_cons.mpr ⟨(List.mem_cons_of_mem _ (List.mem_append_left _ (List.mem_of_getElem? (i := 3) rfl))), (List.forall_mem_cons.mpr ⟨(List.mem_cons_of_mem _ (List.mem_append_left _ (List.mem_of_getElem? (i := 2) rfl))), (List.forall_mem_cons.mpr ⟨(List.mem_cons_of_mem _ (List.mem_append_left _ (List.mem_of_getElem? (i := 1) rfl))), (List.forall_mem_cons.mpr ⟨(List.mem_cons_of_mem _ (List.mem_append_left _ (List.mem_of_getElem? (i := 0) rfl))), (fun _ h => absurd h List.not_mem_nil)⟩)⟩)⟩)⟩) (kGV _ _ _ _) (fun _ h => List.mem_cons_of_mem _ (List.mem_append_right _ (List.mem_append_left _ h))) gw_s_look4x) rfl rfl rfl ⟨rfl, hd_X4_look⟩ ⟨(show 2 + 1 ≤ (9 + 6 * (e1 + 1)) from by omega), (show 8 + (2 + 11) + 60 * 2 ≤ 60 * (9 + 6 * (e1 + 1)) from by omega)⟩) (kW_V kT_blind kT_give (va_recv hKc hPc (ci := 4) (q0 := 0) rfl rfl) hPc hKc hDc) rfl rfl hl.1 rfl (lv_room (Nat.le_of_ble_eq_true rfl)) dX4_readUnit_5 ⟨(Nat.le_of_ble_eq_true rfl), (Nat.le_of_ble_eq_true rfl)⟩) hS (fun q _ h => hFc q h) hFc (fun r_2 => kU2 (fun Pn_3 ch_4 t H_5 locs ht hvm hw hB hz1 hk1 hS => ?_))
  try dsimp only at hw
  have hPD : kPD dC dI A [(jR, .inr (4, [.ref jT, .ref r1, .ref r2, .int (nI (wr)), .int (nI (fi)), .int (nI (Pn_3)), .ref q6, .ref q7])), (r1, .inl (c1, 120, .inl s1)), (r2, .inl (c2, 124, .inl s2)), (jT, .inr (8, [.ref t0, .int (nI (kt))])), (t0, .inl (cC, 120, .inl gT))] H_5 := kJoinX hP hD [0, 1, 2, 3, 4] rfl hk1 hFc hB.1 ht hB.2.2 rfl [some 0, some 1, some 2, some 3, some 4] rfl rfl
  have hP := hPD.1
  have hD := hPD.2
  obtain ⟨rfl, hw_6_0, hw_6_1, hw_6_2, hw_6_3, hw_6_4, hw_6_5, hw_6_6⟩ := hw
  refine lv_istore_n hx hb dX4_readUnit_8 rfl hl kc_l_3_4 (kTo [(3, .int (nI (ch_4))), (0, .ref jR), (1, .int (nI (dd))), (2, .int 0)]) (fun ls hl => ?_)
  refine lv_iload_n hx hb dX4_readUnit_9 rfl (lv_at hl 0 rfl) ?_
  refine lv_bipush (v := 33) hx hb dX4_readUnit_10 kc_b_33 ?_
  refine lv_icmp_ne (tgt := 50) hx hb dX4_readUnit_12 kc_t_12_38 (fun c_7 => ?_) (fun c_7 => ?_)
  · have bd_9 : ch_4 < 2147483648 := by omega
    have hn_8 := kneq (a := ch_4) (b := 33) bd_9 kc_31_33 c_7
    refine lv_iload_n hx hb dX4_readUnit_50 rfl (lv_at hl 0 rfl) ?_
    refine lv_bipush (v := 40) hx hb dX4_readUnit_51 kc_b_40 ?_
    refine lv_icmp_ne (tgt := 90) hx hb dX4_readUnit_53 kc_t_53_37 (fun c_10 => ?_) (fun c_10 => ?_)
    · have hn_11 := kneq (a := ch_4) (b := 40) bd_9 kc_31_40 c_10
      refine lv_aload_n hx hb dX4_readUnit_90 rfl (lv_at hl 1 rfl) ?_
      refine lv_iload_n hx hb dX4_readUnit_91 rfl (lv_at hl 2 rfl) ?_
      have bd_12 : Pn_3 ≤ kt := by omega
      have bd_13 : wr ≤ Pn_3 := by omega
      have bd_14 : dd + e1 = 5 := by omega
      have hCu := kCut (wc := [(jR, .inr (4, [.ref jT, .ref r1, .ref r2, .int (nI (wr)), .int (nI (fi)), .int (nI (Pn_3)), .ref q6, .ref q7])), (r1, .inl (c1, 120, .inl s1)), (r2, .inl (c2, 124, .inl s2)), (jT, .inr (8, [.ref t0, .int (nI (kt))])), (t0, .inl (cC, 120, .inl gT))]) hP hD hS hA [0, 1, 2, 3, 4] rfl kc_nd_311 rfl
      have hPc := hCu.1
      have hDc := hCu.2.1
      have hFc := hCu.2.2
      have hKc := hK.sb (tys2 := [(c1, .int), (c2, .int), (cC, .char)]) [0, 1, 2] rfl
      refine va_calli (va_runV (As := [.int (nI (dd))]) (rest := []) ⟨hx, hb, hml, hown, hts⟩ (s_sum4x_g l dC dI jT t0 cC gT kt hkt hgT bt hbt hb8 jR r1 r2 c1 c2 s1 s2 wr fi q6 q7 hwr hfi Pn_3 bd_12 bd_13 b6 n6 g6 hn6 b7 n7 g7 hn7 gn6 hz6 gn7 hz7 e1 dd bd_14 ih H_5.size) (cwV 1 hts (kG (List.forall_mem_cons.mpr ⟨(List.mem_cons_of_mem _ (List.mem_append_left _ (List.mem_of_getElem? (i := 32) rfl))), (List.forall_mem_cons.mpr ⟨(List.mem_cons_of_mem _ (List.mem_append_left _ (List.mem_of_getElem? (i := 31) rfl))), (List.forall_mem_cons.mpr ⟨(List.mem_cons_of_mem _ (List.mem_append_left _ (List.mem_of_getElem? (i := 30) rfl))), (List.forall_mem_cons.mpr ⟨(List.mem_cons_of_mem _ (List.mem_append_left _ (List.mem_of_getElem? (i := 0) rfl))), (fun _ h => absurd h List.not_mem_nil)⟩)⟩)⟩)⟩) (kGV _ _ _ _) (kFam (List.mem_cons_of_mem _ (List.mem_append_left _ (List.mem_of_getElem? (i := 29) rfl)))) gw_s_sum4x_g) rfl rfl rfl ⟨rfl, hd_X4_readSum⟩ ⟨(show (8 + 6 * (e1 + 1)) + 1 ≤ (9 + 6 * (e1 + 1)) from by omega), (show 8 + (4 + 11) + 60 * (8 + 6 * (e1 + 1)) ≤ 60 * (9 + 6 * (e1 + 1)) from by omega)⟩) (kW_V kS2_blind (kS2_give hX hS hFc) (va_recv hKc hPc (ci := 4) (q0 := 0) rfl rfl) hPc hKc hDc) rfl rfl hl.1 rfl (lv_room (Nat.le_of_ble_eq_true rfl)) dX4_readUnit_92 ⟨(Nat.le_of_ble_eq_true rfl), (Nat.le_of_ble_eq_true rfl)⟩) hS (fun q _ h => hFc q h) hFc (fun r_15 => kU5 (fun S1_16 Wr_17 Pn_18 xo_19 xl_20 t H_21 locs ht hvm hw hB hz1 hk1 hS => ?_))
      try dsimp only at hw
      have hPD : kPD dC dI A [(jR, .inr (4, [.ref jT, .ref r1, .ref r2, .int (nI (Wr_17)), .int (nI (fi)), .int (nI (Pn_18)), .ref q6, .ref q7])), (r1, .inl (c1, 120, .inl S1_16)), (r2, .inl (c2, 124, .inl s2)), (jT, .inr (8, [.ref t0, .int (nI (kt))])), (t0, .inl (cC, 120, .inl gT))] H_21 := kJoinX hP hD [0, 1, 2, 3, 4] rfl hk1 hFc hB.1 ht hB.2.2 rfl [some 0, some 1, some 2, some 3, some 4] rfl rfl
      have hP := hPD.1
      have hD := hPD.2
      have hw_22 := hw
      refine lv_if_ne (tgt := 100) hx hb dX4_readUnit_95 kc_t_95_5 (fun c_23 => ?_) (fun c_23 => ?_)
      · obtain rfl : xo_19 = true := kBo_t (kNz9 hw_22.1 c_23)
        obtain ⟨hw_22_W, hw_22_S, hw_22_l, hw_22_p⟩ := hw_22.2.1.2.2 rfl
        have hw_22_k := hw_22.2.1.2.1
        refine lv_aload_n hx hb dX4_readUnit_100 rfl (lv_at hl 1 rfl) ?_
        have bd_24 : Wr_17 ≤ 120 := by omega
        have bd_25 : Pn_18 ≤ kt := by omega
        have hCu := kCut (wc := [(jR, .inr (4, [.ref jT, .ref r1, .ref r2, .int (nI (Wr_17)), .int (nI (fi)), .int (nI (Pn_18)), .ref q6, .ref q7])), (r1, .inl (c1, 120, .inl S1_16)), (r2, .inl (c2, 124, .inl s2)), (jT, .inr (8, [.ref t0, .int (nI (kt))])), (t0, .inl (cC, 120, .inl gT))]) hP hD hS hA [0, 1, 2, 3, 4] rfl kc_nd_311 rfl
        have hPc := hCu.1
        have hDc := hCu.2.1
        have hFc := hCu.2.2
        have hKc := hK.sb (tys2 := [(c1, .int), (c2, .int), (cC, .char)]) [0, 1, 2] rfl
        refine va_calli (va_runV (As := []) (rest := []) ⟨hx, hb, hml, hown, hts⟩ (s_look4x l dC dI jT t0 cC gT kt hkt hgT bt hbt hb8 jR r1 r2 c1 c2 S1_16 s2 Wr_17 fi q6 q7 bd_24 hfi Pn_18 bd_25 H_21.size) (cwV 0 hts (kG (List.forall_mem_cons.mpr ⟨(List.mem_cons_of_mem _ (List.mem_append_left _ (List.mem_of_getElem? (i := 3) rfl))), (List.forall_mem_cons.mpr ⟨(List.mem_cons_of_mem _ (List.mem_append_left _ (List.mem_of_getElem? (i := 2) rfl))), (List.forall_mem_cons.mpr ⟨(List.mem_cons_of_mem _ (List.mem_append_left _ (List.mem_of_getElem? (i := 1) rfl))), (List.forall_mem_cons.mpr ⟨(List.mem_cons_of_mem _ (List.mem_append_left _ (List.mem_of_getElem? (i := 0) rfl))), (fun _ h => absurd h List.not_mem_nil)⟩)⟩)⟩)⟩) (kGV _ _ _ _) (fun _ h => List.mem_cons_of_mem _ (List.mem_append_right _ (List.mem_append_left _ h))) gw_s_look4x) rfl rfl rfl ⟨rfl, hd_X4_look⟩ ⟨(show 2 + 1 ≤ (9 + 6 * (e1 + 1)) from by omega), (show 8 + (2 + 11) + 60 * 2 ≤ 60 * (9 + 6 * (e1 + 1)) from by omega)⟩) (kW_V kT_blind kT_give (va_recv hKc hPc (ci := 4) (q0 := 0) rfl rfl) hPc hKc hDc) rfl rfl hl.1 rfl (lv_room (Nat.le_of_ble_eq_true rfl)) dX4_readUnit_101 ⟨(Nat.le_of_ble_eq_true rfl), (Nat.le_of_ble_eq_true rfl)⟩) hS (fun q _ h => hFc q h) hFc (fun r_26 => kU2 (fun Pn_27 ch_28 t H_29 locs ht hvm hw hB hz1 hk1 hS => ?_))
        try dsimp only at hw
        have hPD : kPD dC dI A [(jR, .inr (4, [.ref jT, .ref r1, .ref r2, .int (nI (Wr_17)), .int (nI (fi)), .int (nI (Pn_27)), .ref q6, .ref q7])), (r1, .inl (c1, 120, .inl S1_16)), (r2, .inl (c2, 124, .inl s2)), (jT, .inr (8, [.ref t0, .int (nI (kt))])), (t0, .inl (cC, 120, .inl gT))] H_29 := kJoinX hP hD [0, 1, 2, 3, 4] rfl hk1 hFc hB.1 ht hB.2.2 rfl [some 0, some 1, some 2, some 3, some 4] rfl rfl
        have hP := hPD.1
        have hD := hPD.2
        obtain ⟨rfl, hw_30_0, hw_30_1, hw_30_2, hw_30_3, hw_30_4, hw_30_5, hw_30_6⟩ := hw
        refine lv_istore_n hx hb dX4_readUnit_104 rfl hl kc_l_3_4 (kTo [(3, .int (nI (ch_28))), (0, .ref jR), (1, .int (nI (dd))), (2, .int 0)]) (fun ls hl => ?_)
        refine lv_iload_n hx hb dX4_readUnit_105 rfl (lv_at hl 0 rfl) ?_
        have bd_31 : ch_28 < 256 := by omega
        have hPc := hP.sb (ws2 := []) [] rfl
        have hKc := hK.sb (tys2 := []) [] rfl
        refine vp_callSi (va_runS (As := [.int (nI (ch_28))]) (rest := []) ⟨hx, hb, hml, hown, hts⟩ (s_comp4x l dC dI ch_28 bd_31) (va_cwS 1 hts (kG (List.forall_mem_cons.mpr ⟨(List.mem_cons_of_mem _ (List.mem_append_left _ (List.mem_of_getElem? (i := 34) rfl))), (List.forall_mem_cons.mpr ⟨(List.mem_cons_of_mem _ (List.mem_append_left _ (List.mem_of_getElem? (i := 33) rfl))), (List.forall_mem_cons.mpr ⟨(List.mem_cons_of_mem _ (List.mem_append_left _ (List.mem_of_getElem? (i := 0) rfl))), (fun _ h => absurd h List.not_mem_nil)⟩)⟩)⟩) (kGS _ _ _) (fun _ h => List.mem_cons_of_mem _ (List.mem_append_right _ (List.mem_append_right _ (List.mem_append_right _ (List.mem_append_right _ (List.mem_append_right _ (List.mem_append_right _ (List.mem_append_right _ (List.mem_append_right _ (List.mem_append_left _ h)))))))))) gw_s_comp4x) rfl rfl rfl hd_X4_isComparison ⟨(show 1 + 1 ≤ (9 + 6 * (e1 + 1)) from by omega), (show 8 + (1 + 11) + 60 * 1 ≤ 60 * (9 + 6 * (e1 + 1)) from by omega)⟩) (kR_S kT_blind kT_give hPc hKc) rfl rfl hl.1 rfl (lv_room (Nat.le_of_ble_eq_true rfl)) dX4_readUnit_106 ⟨(Nat.le_of_ble_eq_true rfl), (Nat.le_of_ble_eq_true rfl)⟩).run (fun r_32 hw => ?_)
        have hw_33 := hw
        refine lv_if_ne (tgt := 114) hx hb dX4_readUnit_109 kc_t_109_5 (fun c_34 => ?_) (fun c_34 => ?_)
        · have hcp := hw_33.mp c_34
          refine lv_aload_n hx hb dX4_readUnit_114 rfl (lv_at hl 1 rfl) ?_
          refine lv_dup hx hb dX4_readUnit_115 rfl ?_
          refine va_get (D := (dC, dI)) (ci := 4) (v := .int (nI (Pn_27))) (C := RX4) (T := TX4) (N := 8) hx hb hts (fun _ h => List.mem_cons_of_mem _ (List.mem_append_right _ (List.mem_append_right _ (List.mem_append_right _ (List.mem_append_left _ h))))) hown hK hP 0 rfl rfl 5 kc_l_5_8 (hts (.fieldLink RX4 25 "NotEnded$Reader" "place" "I") (List.mem_cons_of_mem _ (List.mem_append_left _ (List.mem_of_getElem? (i := 11) rfl)))) (fun _ h9 => h9) rfl dX4_readUnit_116 ?_
          refine lv_iconst (v := 1) hx hb dX4_readUnit_119 kc_i_1 ?_
          refine lv_iadd hx hb dX4_readUnit_120 ?_
          refine lv_topi (fun y_35 ey_35 => ?_)
          obtain rfl : y_35 = nI (Pn_27 + 1) := ey_35.trans (nI_add (Pn_27) (1))
          refine va_put (D := (dC, dI)) (ci := 4) (v := .int (nI (Pn_27 + 1))) (ty := tyX4 5) (C := RX4) (T := TX4) (N := 8) hx hb hts (fun _ h => List.mem_cons_of_mem _ (List.mem_append_right _ (List.mem_append_right _ (List.mem_append_right _ (List.mem_append_left _ h))))) tyX4 tyX4_ok nmX4 hown hK hP hD hS 0 rfl rfl 5 kc_l_5_8 (hts (.fieldLink RX4 25 "NotEnded$Reader" "place" "I") (List.mem_cons_of_mem _ (List.mem_append_left _ (List.mem_of_getElem? (i := 11) rfl)))) (fun _ h9 => h9) rfl (tyX4_ok 5 kc_l_5_8) rfl rfl (Nat.le_of_ble_eq_true rfl) dX4_readUnit_121 (fun H locs hP hD hS => ?_)
          have hPD : kPD dC dI A [(jR, .inr (4, [.ref jT, .ref r1, .ref r2, .int (nI (Wr_17)), .int (nI (fi)), .int (nI (Pn_27 + 1)), .ref q6, .ref q7])), (r1, .inl (c1, 120, .inl S1_16)), (r2, .inl (c2, 124, .inl s2)), (jT, .inr (8, [.ref t0, .int (nI (kt))])), (t0, .inl (cC, 120, .inl gT))] H := ⟨hP, hD⟩
          have hP := hPD.1
          have hD := hPD.2
          refine lv_aload_n hx hb dX4_readUnit_124 rfl (lv_at hl 1 rfl) ?_
          refine lv_iload_n hx hb dX4_readUnit_125 rfl (lv_at hl 2 rfl) ?_
          have bd_36 : (Pn_27 + 1) ≤ kt := by omega
          have bd_37 : Wr_17 ≤ (Pn_27 + 1) := by omega
          have hCu := kCut (wc := [(jR, .inr (4, [.ref jT, .ref r1, .ref r2, .int (nI (Wr_17)), .int (nI (fi)), .int (nI (Pn_27 + 1)), .ref q6, .ref q7])), (r1, .inl (c1, 120, .inl S1_16)), (r2, .inl (c2, 124, .inl s2)), (jT, .inr (8, [.ref t0, .int (nI (kt))])), (t0, .inl (cC, 120, .inl gT))]) hP hD hS hA [0, 1, 2, 3, 4] rfl kc_nd_311 rfl
          have hPc := hCu.1
          have hDc := hCu.2.1
          have hFc := hCu.2.2
          have hKc := hK.sb (tys2 := [(c1, .int), (c2, .int), (cC, .char)]) [0, 1, 2] rfl
          refine va_calli (va_runV (As := [.int (nI (dd))]) (rest := []) ⟨hx, hb, hml, hown, hts⟩ (s_sum4x_g l dC dI jT t0 cC gT kt hkt hgT bt hbt hb8 jR r1 r2 c1 c2 S1_16 s2 Wr_17 fi q6 q7 bd_24 hfi (Pn_27 + 1) bd_36 bd_37 b6 n6 g6 hn6 b7 n7 g7 hn7 gn6 hz6 gn7 hz7 e1 dd bd_14 ih H.size) (cwV 1 hts (kG (List.forall_mem_cons.mpr ⟨(List.mem_cons_of_mem _ (List.mem_append_left _ (List.mem_of_getElem? (i := 32) rfl))), (List.forall_mem_cons.mpr ⟨(List.mem_cons_of_mem _ (List.mem_append_left _ (List.mem_of_getElem? (i := 31) rfl))), (List.forall_mem_cons.mpr ⟨(List.mem_cons_of_mem _ (List.mem_append_left _ (List.mem_of_getElem? (i := 30) rfl))), (List.forall_mem_cons.mpr ⟨(List.mem_cons_of_mem _ (List.mem_append_left _ (List.mem_of_getElem? (i := 0) rfl))), (fun _ h => absurd h List.not_mem_nil)⟩)⟩)⟩)⟩) (kGV _ _ _ _) (kFam (List.mem_cons_of_mem _ (List.mem_append_left _ (List.mem_of_getElem? (i := 29) rfl)))) gw_s_sum4x_g) rfl rfl rfl ⟨rfl, hd_X4_readSum⟩ ⟨(show (8 + 6 * (e1 + 1)) + 1 ≤ (9 + 6 * (e1 + 1)) from by omega), (show 8 + (4 + 11) + 60 * (8 + 6 * (e1 + 1)) ≤ 60 * (9 + 6 * (e1 + 1)) from by omega)⟩) (kW_V kS2_blind (kS2_give hX hS hFc) (va_recv hKc hPc (ci := 4) (q0 := 0) rfl rfl) hPc hKc hDc) rfl rfl hl.1 rfl (lv_room (Nat.le_of_ble_eq_true rfl)) dX4_readUnit_126 ⟨(Nat.le_of_ble_eq_true rfl), (Nat.le_of_ble_eq_true rfl)⟩) hS (fun q _ h => hFc q h) hFc (fun r_38 => kU5 (fun S1_39 Wr_40 Pn_41 xo_42 xl_43 t H_44 locs ht hvm hw hB hz1 hk1 hS => ?_))
          try dsimp only at hw
          have hPD : kPD dC dI A [(jR, .inr (4, [.ref jT, .ref r1, .ref r2, .int (nI (Wr_40)), .int (nI (fi)), .int (nI (Pn_41)), .ref q6, .ref q7])), (r1, .inl (c1, 120, .inl S1_39)), (r2, .inl (c2, 124, .inl s2)), (jT, .inr (8, [.ref t0, .int (nI (kt))])), (t0, .inl (cC, 120, .inl gT))] H_44 := kJoinX hP hD [0, 1, 2, 3, 4] rfl hk1 hFc hB.1 ht hB.2.2 rfl [some 0, some 1, some 2, some 3, some 4] rfl rfl
          have hP := hPD.1
          have hD := hPD.2
          have hw_45 := hw
          refine lv_if_eq (tgt := 148) hx hb dX4_readUnit_129 kc_t_129_19 (fun c_46 => ?_) (fun c_46 => ?_)
          · obtain rfl : xo_42 = false := kBo_f (kZr9 hw_45.1 c_46)
            have hw_45_k := hw_45.2.1.2.1
            refine lv_iconst (v := 0) hx hb dX4_readUnit_148 kc_i_0 ?_
            have hP9 := hP
            have hD9 := hD
            have hK9 := hK
            rw [hQ]
            exact W.zret (v := 0) hx hb hr rfl (fun t ht hW => ⟨⟨0, (S1_39, Wr_40, Pn_41, false, ([])), rfl, ⟨rfl, kPR_f ((kUnitD_s e1 pn).trans (by unfold kUnitF; rw [← hw_6_0, ← hw_6_1]; rw [if_neg (by omega), if_neg (by omega), hw_22.2.1.1, kTh_t]; unfold kCmp; rw [← hw_30_0, ← hw_30_1, if_pos (by omega), hw_45.2.1.1]; rfl)) (by omega), by omega⟩,  by rw [ht]; exact hP9, va_K.moved hW.alike hK9, hD9⟩, hS.F ht⟩) hS.2.2 dX4_readUnit_149
          · obtain rfl : xo_42 = true := kBo_t (kNz9 hw_45.1 c_46)
            obtain ⟨hw_45_W, hw_45_S, hw_45_l, hw_45_p⟩ := hw_45.2.1.2.2 rfl
            have hw_45_k := hw_45.2.1.2.1
            refine lv_aload_n hx hb dX4_readUnit_132 rfl (lv_at hl 1 rfl) ?_
            refine lv_sipush (v := 20000) hx hb dX4_readUnit_133 kc_s_20000 ?_
            refine lv_iload_n hx hb dX4_readUnit_136 rfl (lv_at hl 0 rfl) ?_
            refine lv_iadd hx hb dX4_readUnit_137 ?_
            refine lv_topi (fun y_47 ey_47 => ?_)
            obtain rfl : y_47 = nI (20000 + ch_28) := ey_47.trans (nI_add (20000) (ch_28))
            have bd_48 : Wr_40 ≤ 120 := by omega
            have bd_49 : Pn_41 ≤ kt := by omega
            have bd_50 : Wr_40 < 120 := by omega
            have hCu := kCut (wc := [(jR, .inr (4, [.ref jT, .ref r1, .ref r2, .int (nI (Wr_40)), .int (nI (fi)), .int (nI (Pn_41)), .ref q6, .ref q7])), (r1, .inl (c1, 120, .inl S1_39)), (r2, .inl (c2, 124, .inl s2)), (jT, .inr (8, [.ref t0, .int (nI (kt))])), (t0, .inl (cC, 120, .inl gT))]) hP hD hS hA [0, 1, 2, 3, 4] rfl kc_nd_311 rfl
            have hPc := hCu.1
            have hDc := hCu.2.1
            have hFc := hCu.2.2
            have hKc := hK.sb (tys2 := [(c1, .int), (c2, .int), (cC, .char)]) [0, 1, 2] rfl
            refine va_calli (va_runV (As := [.int (nI (20000 + ch_28))]) (rest := []) ⟨hx, hb, hml, hown, hts⟩ (s_write4x l dC dI jT t0 cC gT kt hkt hgT bt hbt hb8 jR r1 r2 c1 c2 S1_39 s2 Wr_40 fi q6 q7 bd_48 hfi Pn_41 bd_49 (nI (20000 + ch_28)) bd_50 H_44.size) (cwV 1 hts (kG (List.forall_mem_cons.mpr ⟨(List.mem_cons_of_mem _ (List.mem_append_left _ (List.mem_of_getElem? (i := 14) rfl))), (List.forall_mem_cons.mpr ⟨(List.mem_cons_of_mem _ (List.mem_append_left _ (List.mem_of_getElem? (i := 13) rfl))), (List.forall_mem_cons.mpr ⟨(List.mem_cons_of_mem _ (List.mem_append_left _ (List.mem_of_getElem? (i := 12) rfl))), (List.forall_mem_cons.mpr ⟨(List.mem_cons_of_mem _ (List.mem_append_left _ (List.mem_of_getElem? (i := 0) rfl))), (fun _ h => absurd h List.not_mem_nil)⟩)⟩)⟩)⟩) (kGV _ _ _ _) (fun _ h => List.mem_cons_of_mem _ (List.mem_append_right _ (List.mem_append_right _ (List.mem_append_right _ (List.mem_append_right _ (List.mem_append_right _ (List.mem_append_left _ h))))))) gw_s_write4x) rfl rfl rfl ⟨rfl, hd_X4_write⟩ ⟨(show 1 + 1 ≤ (9 + 6 * (e1 + 1)) from by omega), (show 8 + (2 + 11) + 60 * 1 ≤ 60 * (9 + 6 * (e1 + 1)) from by omega)⟩) (kW_V kT_blind kT_give (va_recv hKc hPc (ci := 4) (q0 := 0) rfl rfl) hPc hKc hDc) rfl rfl hl.1 rfl (lv_room (Nat.le_of_ble_eq_true rfl)) dX4_readUnit_138 ⟨(Nat.le_of_ble_eq_true rfl), (Nat.le_of_ble_eq_true rfl)⟩) hS (fun q _ h => hFc q h) hFc (fun r_51 => kU2 (fun S1_52 Wr_53 t H_54 locs ht hvm hw hB hz1 hk1 hS => ?_))
            try dsimp only at hw
            have hPD : kPD dC dI A [(jR, .inr (4, [.ref jT, .ref r1, .ref r2, .int (nI (Wr_53)), .int (nI (fi)), .int (nI (Pn_41)), .ref q6, .ref q7])), (r1, .inl (c1, 120, .inl S1_52)), (r2, .inl (c2, 124, .inl s2)), (jT, .inr (8, [.ref t0, .int (nI (kt))])), (t0, .inl (cC, 120, .inl gT))] H_54 := kJoinX hP hD [0, 1, 2, 3, 4] rfl hk1 hFc hB.1 ht hB.2.2 rfl [some 0, some 1, some 2, some 3, some 4] rfl rfl
            have hP := hPD.1
            have hD := hPD.2
            obtain ⟨rfl, hw_55⟩ := hw
            refine lv_if_eq (tgt := 148) hx hb dX4_readUnit_141 kc_t_141_7 (fun c_56 => absurd c_56 (by decide)) (fun c_56 => ?_)
            refine lv_iconst (v := 1) hx hb dX4_readUnit_144 kc_i_1 ?_
            refine lv_goto (tgt := 149) hx hb dX4_readUnit_145 kc_t_145_4 ?_
            have hP9 := hP
            have hD9 := hD
            have hK9 := hK
            rw [hQ]
            exact W.zret (v := 1) hx hb hr rfl (fun t ht hW => ⟨⟨1, (S1_52, Wr_53, Pn_41, true, (xl_20 ++ xl_43 ++ [nI (20000 + ch_28)])), rfl, ⟨rfl, kPR_t (a := kUnitD bt kt g7 n7 (e1 + 1)) rfl (kUnitD_good hz7 (e1 + 1)) (by omega) ((kUnitD_s e1 pn).trans (by unfold kUnitF; rw [← hw_6_0, ← hw_6_1]; rw [if_neg (by omega), if_neg (by omega), hw_22.2.1.1, kTh_t]; unfold kCmp; rw [← hw_30_0, ← hw_30_1, if_pos (by omega), hw_45.2.1.1, kTh_t])) (by simp only [List.length_append, List.length_cons, List.length_nil]; omega) (kWrt3 hw_22_S hw_22_W hw_45_S hw_45_W hw_55.2), by omega⟩,  by rw [ht]; exact hP9, va_K.moved hW.alike hK9, hD9⟩, hS.F ht⟩) hS.2.2 dX4_readUnit_149
        · have hcp : ¬ (ch_28 = 61 ∨ ch_28 = 60 ∨ ch_28 = 62) := fun z9 => hw_33.mpr z9 c_34
          refine lv_iconst (v := 0) hx hb dX4_readUnit_112 kc_i_0 ?_
          have hP9 := hP
          have hD9 := hD
          have hK9 := hK
          rw [hQ]
          exact W.zret (v := 0) hx hb hr rfl (fun t ht hW => ⟨⟨0, (S1_16, Wr_17, Pn_27, false, ([])), rfl, ⟨rfl, kPR_f ((kUnitD_s e1 pn).trans (by unfold kUnitF; rw [← hw_6_0, ← hw_6_1]; rw [if_neg (by omega), if_neg (by omega), hw_22.2.1.1, kTh_t]; unfold kCmp; rw [← hw_30_0, ← hw_30_1, if_neg (by omega)])) (by omega), by omega⟩,  by rw [ht]; exact hP9, va_K.moved hW.alike hK9, hD9⟩, hS.F ht⟩) hS.2.2 dX4_readUnit_113
      · obtain rfl : xo_19 = false := kBo_f (kZr9 hw_22.1 c_23)
        have hw_22_k := hw_22.2.1.2.1
        refine lv_iconst (v := 0) hx hb dX4_readUnit_98 kc_i_0 ?_
        have hP9 := hP
        have hD9 := hD
        have hK9 := hK
        rw [hQ]
        exact W.zret (v := 0) hx hb hr rfl (fun t ht hW => ⟨⟨0, (S1_16, Wr_17, Pn_18, false, ([])), rfl, ⟨rfl, kPR_f ((kUnitD_s e1 pn).trans (by unfold kUnitF; rw [← hw_6_0, ← hw_6_1]; rw [if_neg (by omega), if_neg (by omega), hw_22.2.1.1]; rfl)) (by omega), by omega⟩,  by rw [ht]; exact hP9, va_K.moved hW.alike hK9, hD9⟩, hS.F ht⟩) hS.2.2 dX4_readUnit_99
    · have hn_57 := keq (a := ch_4) (b := 40) bd_9 kc_31_40 c_10
      refine lv_aload_n hx hb dX4_readUnit_56 rfl (lv_at hl 1 rfl) ?_
      refine lv_iload_n hx hb dX4_readUnit_57 rfl (lv_at hl 2 rfl) ?_
      have bd_58 : Pn_3 ≤ kt := by omega
      have bd_59 : Pn_3 < kt := by omega
      have bd_60 : dd < 6 := by omega
      have hCu := kCut (wc := [(jR, .inr (4, [.ref jT, .ref r1, .ref r2, .int (nI (wr)), .int (nI (fi)), .int (nI (Pn_3)), .ref q6, .ref q7])), (r1, .inl (c1, 120, .inl s1)), (r2, .inl (c2, 124, .inl s2)), (jT, .inr (8, [.ref t0, .int (nI (kt))])), (t0, .inl (cC, 120, .inl gT))]) hP hD hS hA [0, 1, 2, 3, 4] rfl kc_nd_311 rfl
      have hPc := hCu.1
      have hDc := hCu.2.1
      have hFc := hCu.2.2
      have hKc := hK.sb (tys2 := [(c1, .int), (c2, .int), (cC, .char)]) [0, 1, 2] rfl
      refine va_calli (va_runV (As := [.int (nI (dd))]) (rest := []) ⟨hx, hb, hml, hown, hts⟩ (s_opens4_g l dC dI jT t0 cC gT kt hkt hgT bt hbt hb8 jR r1 r2 c1 c2 s1 s2 wr fi q6 q7 hwr hfi Pn_3 bd_58 bd_59 dd bd_60 H_5.size) (cwV 1 hts (kG (List.forall_mem_cons.mpr ⟨(List.mem_cons_of_mem _ (List.mem_append_left _ (List.mem_of_getElem? (i := 20) rfl))), (List.forall_mem_cons.mpr ⟨(List.mem_cons_of_mem _ (List.mem_append_left _ (List.mem_of_getElem? (i := 19) rfl))), (List.forall_mem_cons.mpr ⟨(List.mem_cons_of_mem _ (List.mem_append_left _ (List.mem_of_getElem? (i := 18) rfl))), (List.forall_mem_cons.mpr ⟨(List.mem_cons_of_mem _ (List.mem_append_left _ (List.mem_of_getElem? (i := 0) rfl))), (fun _ h => absurd h List.not_mem_nil)⟩)⟩)⟩)⟩) (kGV _ _ _ _) (fun _ h => List.mem_cons_of_mem _ (List.mem_append_right _ (List.mem_append_right _ (List.mem_append_right _ (List.mem_append_right _ (List.mem_append_right _ (List.mem_append_right _ (List.mem_append_right _ (List.mem_append_right _ (List.mem_append_right _ (List.mem_append_left _ h))))))))))) gw_s_opens4_g) rfl rfl rfl ⟨rfl, hd_X4_opens⟩ ⟨(show 1 + 1 ≤ (9 + 6 * (e1 + 1)) from by omega), (show 8 + (2 + 11) + 60 * 1 ≤ 60 * (9 + 6 * (e1 + 1)) from by omega)⟩) (kW_V kT_blind kT_give (va_recv hKc hPc (ci := 4) (q0 := 0) rfl rfl) hPc hKc hDc) rfl rfl hl.1 rfl (lv_room (Nat.le_of_ble_eq_true rfl)) dX4_readUnit_58 ⟨(Nat.le_of_ble_eq_true rfl), (Nat.le_of_ble_eq_true rfl)⟩) hS (fun q _ h => hFc q h) hFc (fun r_61 Pn_62 t H_63 locs ht hvm hw hB hz1 hk1 hS => ?_)
      try dsimp only at hw
      have hPD : kPD dC dI A [(jR, .inr (4, [.ref jT, .ref r1, .ref r2, .int (nI (wr)), .int (nI (fi)), .int (nI (Pn_62)), .ref q6, .ref q7])), (r1, .inl (c1, 120, .inl s1)), (r2, .inl (c2, 124, .inl s2)), (jT, .inr (8, [.ref t0, .int (nI (kt))])), (t0, .inl (cC, 120, .inl gT))] H_63 := kJoinX hP hD [0, 1, 2, 3, 4] rfl hk1 hFc hB.1 ht hB.2.2 rfl [some 0, some 1, some 2, some 3, some 4] rfl rfl
      have hP := hPD.1
      have hD := hPD.2
      obtain ⟨rfl, hw_64⟩ := hw
      subst hw_64
      refine lv_if_eq (tgt := 88) hx hb dX4_readUnit_61 kc_t_61_27 (fun c_65 => absurd c_65 (by decide)) (fun c_65 => ?_)
      refine lv_aload_n hx hb dX4_readUnit_64 rfl (lv_at hl 1 rfl) ?_
      refine lv_iload_n hx hb dX4_readUnit_65 rfl (lv_at hl 2 rfl) ?_
      refine lv_iconst (v := 1) hx hb dX4_readUnit_66 kc_i_1 ?_
      refine lv_iadd hx hb dX4_readUnit_67 ?_
      refine lv_topi (fun y_66 ey_66 => ?_)
      obtain rfl : y_66 = nI (dd + 1) := ey_66.trans (nI_add (dd) (1))
      refine lv_iconst (v := 0) hx hb dX4_readUnit_68 kc_i_0 ?_
      have bd_67 : (Pn_3 + 1) ≤ kt := by omega
      have bd_68 : wr ≤ (Pn_3 + 1) := by omega
      have bd_69 : (dd + 1) + e1 = 6 := by omega
      have hCu := kCut (wc := [(jR, .inr (4, [.ref jT, .ref r1, .ref r2, .int (nI (wr)), .int (nI (fi)), .int (nI ((Pn_3 + 1))), .ref q6, .ref q7])), (r1, .inl (c1, 120, .inl s1)), (r2, .inl (c2, 124, .inl s2)), (jT, .inr (8, [.ref t0, .int (nI (kt))])), (t0, .inl (cC, 120, .inl gT))]) hP hD hS hA [0, 1, 2, 3, 4] rfl kc_nd_311 rfl
      have hPc := hCu.1
      have hDc := hCu.2.1
      have hFc := hCu.2.2
      have hKc := hK.sb (tys2 := [(c1, .int), (c2, .int), (cC, .char)]) [0, 1, 2] rfl
      refine va_calli (va_runV (As := [.int (nI (dd + 1)), .int 0]) (rest := []) ⟨hx, hb, hml, hown, hts⟩ (ih.2.2 l dC dI jT t0 cC gT kt hkt hgT bt hbt hb8 jR r1 r2 c1 c2 s1 s2 wr fi q6 q7 hwr hfi (Pn_3 + 1) bd_67 bd_68 b6 n6 g6 hn6 b7 n7 g7 hn7 gn6 hz6 gn7 hz7 (dd + 1) bd_69 H_63.size) (cwV 2 hts (kG (List.forall_mem_cons.mpr ⟨(List.mem_cons_of_mem _ (List.mem_append_left _ (List.mem_of_getElem? (i := 49) rfl))), (List.forall_mem_cons.mpr ⟨(List.mem_cons_of_mem _ (List.mem_append_left _ (List.mem_of_getElem? (i := 48) rfl))), (List.forall_mem_cons.mpr ⟨(List.mem_cons_of_mem _ (List.mem_append_left _ (List.mem_of_getElem? (i := 47) rfl))), (List.forall_mem_cons.mpr ⟨(List.mem_cons_of_mem _ (List.mem_append_left _ (List.mem_of_getElem? (i := 0) rfl))), (fun _ h => absurd h List.not_mem_nil)⟩)⟩)⟩)⟩) (kGV _ _ _ _) (kFam (List.mem_cons_of_mem _ (List.mem_append_left _ (List.mem_of_getElem? (i := 46) rfl)))) gw_s_cond4x_I_0) rfl rfl rfl ⟨rfl, hd_X4_readCondition⟩ ⟨(show (11 + 6 * e1) + 1 ≤ (9 + 6 * (e1 + 1)) from by omega), (show 8 + (4 + 11) + 60 * (11 + 6 * e1) ≤ 60 * (9 + 6 * (e1 + 1)) from by omega)⟩) (kW_V kS2_blind (kS2_give hX hS hFc) (va_recv hKc hPc (ci := 4) (q0 := 0) rfl rfl) hPc hKc hDc) rfl rfl hl.1 rfl (lv_room (Nat.le_of_ble_eq_true rfl)) dX4_readUnit_69 ⟨(Nat.le_of_ble_eq_true rfl), (Nat.le_of_ble_eq_true rfl)⟩) hS (fun q _ h => hFc q h) hFc (fun r_70 => kU5 (fun S1_71 Wr_72 Pn_73 xo_74 xl_75 t H_76 locs ht hvm hw hB hz1 hk1 hS => ?_))
      try dsimp only at hw
      have hPD : kPD dC dI A [(jR, .inr (4, [.ref jT, .ref r1, .ref r2, .int (nI (Wr_72)), .int (nI (fi)), .int (nI (Pn_73)), .ref q6, .ref q7])), (r1, .inl (c1, 120, .inl S1_71)), (r2, .inl (c2, 124, .inl s2)), (jT, .inr (8, [.ref t0, .int (nI (kt))])), (t0, .inl (cC, 120, .inl gT))] H_76 := kJoinX hP hD [0, 1, 2, 3, 4] rfl hk1 hFc hB.1 ht hB.2.2 rfl [some 0, some 1, some 2, some 3, some 4] rfl rfl
      have hP := hPD.1
      have hD := hPD.2
      have hw_77 := hw
      refine lv_if_eq (tgt := 88) hx hb dX4_readUnit_72 kc_t_72_16 (fun c_78 => ?_) (fun c_78 => ?_)
      · obtain rfl : xo_74 = false := kBo_f (kZr9 hw_77.1 c_78)
        have hw_77_k := hw_77.2.1.2.1
        refine lv_iconst (v := 0) hx hb dX4_readUnit_88 kc_i_0 ?_
        have hP9 := hP
        have hD9 := hD
        have hK9 := hK
        rw [hQ]
        exact W.zret (v := 0) hx hb hr rfl (fun t ht hW => ⟨⟨0, (S1_71, Wr_72, Pn_73, false, ([])), rfl, ⟨rfl, kPR_f ((kUnitD_s e1 pn).trans (by unfold kUnitF; rw [← hw_6_0, ← hw_6_1]; rw [if_neg (by omega), if_pos (by omega), if_pos rfl, hw_77.2.1.1]; rfl)) (by omega), by omega⟩,  by rw [ht]; exact hP9, va_K.moved hW.alike hK9, hD9⟩, hS.F ht⟩) hS.2.2 dX4_readUnit_89
      · obtain rfl : xo_74 = true := kBo_t (kNz9 hw_77.1 c_78)
        obtain ⟨hw_77_W, hw_77_S, hw_77_l, hw_77_p⟩ := hw_77.2.1.2.2 rfl
        have hw_77_k := hw_77.2.1.2.1
        refine lv_aload_n hx hb dX4_readUnit_75 rfl (lv_at hl 1 rfl) ?_
        refine lv_bipush (v := 41) hx hb dX4_readUnit_76 kc_b_41 ?_
        have bd_79 : Wr_72 ≤ 120 := by omega
        have bd_80 : Pn_73 ≤ kt := by omega
        have hCu := kCut (wc := [(jR, .inr (4, [.ref jT, .ref r1, .ref r2, .int (nI (Wr_72)), .int (nI (fi)), .int (nI (Pn_73)), .ref q6, .ref q7])), (r1, .inl (c1, 120, .inl S1_71)), (r2, .inl (c2, 124, .inl s2)), (jT, .inr (8, [.ref t0, .int (nI (kt))])), (t0, .inl (cC, 120, .inl gT))]) hP hD hS hA [0, 1, 2, 3, 4] rfl kc_nd_311 rfl
        have hPc := hCu.1
        have hDc := hCu.2.1
        have hFc := hCu.2.2
        have hKc := hK.sb (tys2 := [(c1, .int), (c2, .int), (cC, .char)]) [0, 1, 2] rfl
        refine va_calli (va_runV (As := [.int 41]) (rest := []) ⟨hx, hb, hml, hown, hts⟩ (s_take4_41 l dC dI jT t0 cC gT kt hkt hgT bt hbt hb8 jR r1 r2 c1 c2 S1_71 s2 Wr_72 fi q6 q7 bd_79 hfi Pn_73 bd_80 H_76.size) (cwV 1 hts (kG (List.forall_mem_cons.mpr ⟨(List.mem_cons_of_mem _ (List.mem_append_left _ (List.mem_of_getElem? (i := 45) rfl))), (List.forall_mem_cons.mpr ⟨(List.mem_cons_of_mem _ (List.mem_append_left _ (List.mem_of_getElem? (i := 44) rfl))), (List.forall_mem_cons.mpr ⟨(List.mem_cons_of_mem _ (List.mem_append_left _ (List.mem_of_getElem? (i := 43) rfl))), (List.forall_mem_cons.mpr ⟨(List.mem_cons_of_mem _ (List.mem_append_left _ (List.mem_of_getElem? (i := 0) rfl))), (fun _ h => absurd h List.not_mem_nil)⟩)⟩)⟩)⟩) (kGV _ _ _ _) (fun _ h => List.mem_cons_of_mem _ (List.mem_append_right _ (List.mem_append_right _ (List.mem_append_right _ (List.mem_append_right _ (List.mem_append_right _ (List.mem_append_right _ (List.mem_append_right _ (List.mem_append_right _ (List.mem_append_right _ (List.mem_append_right _ (List.mem_append_right _ (List.mem_append_left _ h))))))))))))) gw_s_take4_41) rfl rfl rfl ⟨rfl, hd_X4_take⟩ ⟨(show 3 + 1 ≤ (9 + 6 * (e1 + 1)) from by omega), (show 8 + (2 + 11) + 60 * 3 ≤ 60 * (9 + 6 * (e1 + 1)) from by omega)⟩) (kW_V kT_blind kT_give (va_recv hKc hPc (ci := 4) (q0 := 0) rfl rfl) hPc hKc hDc) rfl rfl hl.1 rfl (lv_room (Nat.le_of_ble_eq_true rfl)) dX4_readUnit_78 ⟨(Nat.le_of_ble_eq_true rfl), (Nat.le_of_ble_eq_true rfl)⟩) hS (fun q _ h => hFc q h) hFc (fun r_81 => kU2 (fun Pn_82 xo_83 t H_84 locs ht hvm hw hB hz1 hk1 hS => ?_))
        try dsimp only at hw
        have hPD : kPD dC dI A [(jR, .inr (4, [.ref jT, .ref r1, .ref r2, .int (nI (Wr_72)), .int (nI (fi)), .int (nI (Pn_82)), .ref q6, .ref q7])), (r1, .inl (c1, 120, .inl S1_71)), (r2, .inl (c2, 124, .inl s2)), (jT, .inr (8, [.ref t0, .int (nI (kt))])), (t0, .inl (cC, 120, .inl gT))] H_84 := kJoinX hP hD [0, 1, 2, 3, 4] rfl hk1 hFc hB.1 ht hB.2.2 rfl [some 0, some 1, some 2, some 3, some 4] rfl rfl
        have hP := hPD.1
        have hD := hPD.2
        have hw_85 := hw
        refine lv_if_eq (tgt := 88) hx hb dX4_readUnit_81 kc_t_81_7 (fun c_86 => ?_) (fun c_86 => ?_)
        · obtain rfl : xo_83 = false := kBo_f (kZr9 hw_85.1 c_86)
          have hw_85_k := hw_85.2.2.2.1
          refine lv_iconst (v := 0) hx hb dX4_readUnit_88 kc_i_0 ?_
          have hP9 := hP
          have hD9 := hD
          have hK9 := hK
          rw [hQ]
          exact W.zret (v := 0) hx hb hr rfl (fun t ht hW => ⟨⟨0, (S1_71, Wr_72, Pn_82, false, ([])), rfl, ⟨rfl, kPR_f ((kUnitD_s e1 pn).trans (by unfold kUnitF; rw [← hw_6_0, ← hw_6_1]; rw [if_neg (by omega), if_pos (by omega), if_pos rfl, hw_77.2.1.1, kTh_t]; exact kTk_n _ hw_85.2.1)) (by omega), by omega⟩,  by rw [ht]; exact hP9, va_K.moved hW.alike hK9, hD9⟩, hS.F ht⟩) hS.2.2 dX4_readUnit_89
        · obtain rfl : xo_83 = true := kBo_t (kNz9 hw_85.1 c_86)
          have hw_85_p := hw_85.2.2.2.2 rfl
          have hw_85_k := hw_85.2.2.2.1
          refine lv_iconst (v := 1) hx hb dX4_readUnit_84 kc_i_1 ?_
          refine lv_goto (tgt := 89) hx hb dX4_readUnit_85 kc_t_85_4 ?_
          have hP9 := hP
          have hD9 := hD
          have hK9 := hK
          rw [hQ]
          exact W.zret (v := 1) hx hb hr rfl (fun t ht hW => ⟨⟨1, (S1_71, Wr_72, Pn_82, true, xl_75), rfl, ⟨rfl, kPR_t (a := kUnitD bt kt g7 n7 (e1 + 1)) rfl (kUnitD_good hz7 (e1 + 1)) (by omega) ((kUnitD_s e1 pn).trans (by unfold kUnitF; rw [← hw_6_0, ← hw_6_1]; rw [if_neg (by omega), if_pos (by omega), if_pos rfl, hw_77.2.1.1, kTh_t]; exact kTk_l _ hw_85.2.1)) hw_77_W hw_77_S, by omega⟩,  by rw [ht]; exact hP9, va_K.moved hW.alike hK9, hD9⟩, hS.F ht⟩) hS.2.2 dX4_readUnit_89
  · have bd_88 : ch_4 < 2147483648 := by omega
    have hn_87 := keq (a := ch_4) (b := 33) bd_88 kc_31_33 c_7
    refine lv_aload_n hx hb dX4_readUnit_15 rfl (lv_at hl 1 rfl) ?_
    refine lv_iload_n hx hb dX4_readUnit_16 rfl (lv_at hl 2 rfl) ?_
    have bd_89 : Pn_3 ≤ kt := by omega
    have bd_90 : Pn_3 < kt := by omega
    have bd_91 : dd < 6 := by omega
    have hCu := kCut (wc := [(jR, .inr (4, [.ref jT, .ref r1, .ref r2, .int (nI (wr)), .int (nI (fi)), .int (nI (Pn_3)), .ref q6, .ref q7])), (r1, .inl (c1, 120, .inl s1)), (r2, .inl (c2, 124, .inl s2)), (jT, .inr (8, [.ref t0, .int (nI (kt))])), (t0, .inl (cC, 120, .inl gT))]) hP hD hS hA [0, 1, 2, 3, 4] rfl kc_nd_311 rfl
    have hPc := hCu.1
    have hDc := hCu.2.1
    have hFc := hCu.2.2
    have hKc := hK.sb (tys2 := [(c1, .int), (c2, .int), (cC, .char)]) [0, 1, 2] rfl
    refine va_calli (va_runV (As := [.int (nI (dd))]) (rest := []) ⟨hx, hb, hml, hown, hts⟩ (s_opens4_g l dC dI jT t0 cC gT kt hkt hgT bt hbt hb8 jR r1 r2 c1 c2 s1 s2 wr fi q6 q7 hwr hfi Pn_3 bd_89 bd_90 dd bd_91 H_5.size) (cwV 1 hts (kG (List.forall_mem_cons.mpr ⟨(List.mem_cons_of_mem _ (List.mem_append_left _ (List.mem_of_getElem? (i := 20) rfl))), (List.forall_mem_cons.mpr ⟨(List.mem_cons_of_mem _ (List.mem_append_left _ (List.mem_of_getElem? (i := 19) rfl))), (List.forall_mem_cons.mpr ⟨(List.mem_cons_of_mem _ (List.mem_append_left _ (List.mem_of_getElem? (i := 18) rfl))), (List.forall_mem_cons.mpr ⟨(List.mem_cons_of_mem _ (List.mem_append_left _ (List.mem_of_getElem? (i := 0) rfl))), (fun _ h => absurd h List.not_mem_nil)⟩)⟩)⟩)⟩) (kGV _ _ _ _) (fun _ h => List.mem_cons_of_mem _ (List.mem_append_right _ (List.mem_append_right _ (List.mem_append_right _ (List.mem_append_right _ (List.mem_append_right _ (List.mem_append_right _ (List.mem_append_right _ (List.mem_append_right _ (List.mem_append_right _ (List.mem_append_left _ h))))))))))) gw_s_opens4_g) rfl rfl rfl ⟨rfl, hd_X4_opens⟩ ⟨(show 1 + 1 ≤ (9 + 6 * (e1 + 1)) from by omega), (show 8 + (2 + 11) + 60 * 1 ≤ 60 * (9 + 6 * (e1 + 1)) from by omega)⟩) (kW_V kT_blind kT_give (va_recv hKc hPc (ci := 4) (q0 := 0) rfl rfl) hPc hKc hDc) rfl rfl hl.1 rfl (lv_room (Nat.le_of_ble_eq_true rfl)) dX4_readUnit_17 ⟨(Nat.le_of_ble_eq_true rfl), (Nat.le_of_ble_eq_true rfl)⟩) hS (fun q _ h => hFc q h) hFc (fun r_92 Pn_93 t H_94 locs ht hvm hw hB hz1 hk1 hS => ?_)
    try dsimp only at hw
    have hPD : kPD dC dI A [(jR, .inr (4, [.ref jT, .ref r1, .ref r2, .int (nI (wr)), .int (nI (fi)), .int (nI (Pn_93)), .ref q6, .ref q7])), (r1, .inl (c1, 120, .inl s1)), (r2, .inl (c2, 124, .inl s2)), (jT, .inr (8, [.ref t0, .int (nI (kt))])), (t0, .inl (cC, 120, .inl gT))] H_94 := kJoinX hP hD [0, 1, 2, 3, 4] rfl hk1 hFc hB.1 ht hB.2.2 rfl [some 0, some 1, some 2, some 3, some 4] rfl rfl
    have hP := hPD.1
    have hD := hPD.2
    obtain ⟨rfl, hw_95⟩ := hw
    subst hw_95
    refine lv_if_eq (tgt := 48) hx hb dX4_readUnit_20 kc_t_20_28 (fun c_96 => absurd c_96 (by decide)) (fun c_96 => ?_)
    refine lv_aload_n hx hb dX4_readUnit_23 rfl (lv_at hl 1 rfl) ?_
    refine lv_iload_n hx hb dX4_readUnit_24 rfl (lv_at hl 2 rfl) ?_
    refine lv_iconst (v := 1) hx hb dX4_readUnit_25 kc_i_1 ?_
    refine lv_iadd hx hb dX4_readUnit_26 ?_
    refine lv_topi (fun y_97 ey_97 => ?_)
    obtain rfl : y_97 = nI (dd + 1) := ey_97.trans (nI_add (dd) (1))
    refine lv_iconst (v := 0) hx hb dX4_readUnit_27 kc_i_0 ?_
    have bd_98 : (Pn_3 + 1) ≤ kt := by omega
    have bd_99 : wr ≤ (Pn_3 + 1) := by omega
    have bd_100 : (dd + 1) + e1 = 6 := by omega
    have hCu := kCut (wc := [(jR, .inr (4, [.ref jT, .ref r1, .ref r2, .int (nI (wr)), .int (nI (fi)), .int (nI ((Pn_3 + 1))), .ref q6, .ref q7])), (r1, .inl (c1, 120, .inl s1)), (r2, .inl (c2, 124, .inl s2)), (jT, .inr (8, [.ref t0, .int (nI (kt))])), (t0, .inl (cC, 120, .inl gT))]) hP hD hS hA [0, 1, 2, 3, 4] rfl kc_nd_311 rfl
    have hPc := hCu.1
    have hDc := hCu.2.1
    have hFc := hCu.2.2
    have hKc := hK.sb (tys2 := [(c1, .int), (c2, .int), (cC, .char)]) [0, 1, 2] rfl
    refine va_calli (va_runV (As := [.int (nI (dd + 1)), .int 0]) (rest := []) ⟨hx, hb, hml, hown, hts⟩ (ih.2.1 l dC dI jT t0 cC gT kt hkt hgT bt hbt hb8 jR r1 r2 c1 c2 s1 s2 wr fi q6 q7 hwr hfi (Pn_3 + 1) bd_98 bd_99 b6 n6 g6 hn6 b7 n7 g7 hn7 gn6 hz6 gn7 hz7 (dd + 1) bd_100 H_94.size) (cwV 2 hts (kG (List.forall_mem_cons.mpr ⟨(List.mem_cons_of_mem _ (List.mem_append_left _ (List.mem_of_getElem? (i := 38) rfl))), (List.forall_mem_cons.mpr ⟨(List.mem_cons_of_mem _ (List.mem_append_left _ (List.mem_of_getElem? (i := 37) rfl))), (List.forall_mem_cons.mpr ⟨(List.mem_cons_of_mem _ (List.mem_append_left _ (List.mem_of_getElem? (i := 36) rfl))), (List.forall_mem_cons.mpr ⟨(List.mem_cons_of_mem _ (List.mem_append_left _ (List.mem_of_getElem? (i := 0) rfl))), (fun _ h => absurd h List.not_mem_nil)⟩)⟩)⟩)⟩) (kGV _ _ _ _) (kFam (List.mem_cons_of_mem _ (List.mem_append_left _ (List.mem_of_getElem? (i := 35) rfl)))) gw_s_unit4x_I_0) rfl rfl rfl ⟨rfl, hd_X4_readUnit⟩ ⟨(show (9 + 6 * e1) + 1 ≤ (9 + 6 * (e1 + 1)) from by omega), (show 8 + (4 + 11) + 60 * (9 + 6 * e1) ≤ 60 * (9 + 6 * (e1 + 1)) from by omega)⟩) (kW_V kS2_blind (kS2_give hX hS hFc) (va_recv hKc hPc (ci := 4) (q0 := 0) rfl rfl) hPc hKc hDc) rfl rfl hl.1 rfl (lv_room (Nat.le_of_ble_eq_true rfl)) dX4_readUnit_28 ⟨(Nat.le_of_ble_eq_true rfl), (Nat.le_of_ble_eq_true rfl)⟩) hS (fun q _ h => hFc q h) hFc (fun r_101 => kU5 (fun S1_102 Wr_103 Pn_104 xo_105 xl_106 t H_107 locs ht hvm hw hB hz1 hk1 hS => ?_))
    try dsimp only at hw
    have hPD : kPD dC dI A [(jR, .inr (4, [.ref jT, .ref r1, .ref r2, .int (nI (Wr_103)), .int (nI (fi)), .int (nI (Pn_104)), .ref q6, .ref q7])), (r1, .inl (c1, 120, .inl S1_102)), (r2, .inl (c2, 124, .inl s2)), (jT, .inr (8, [.ref t0, .int (nI (kt))])), (t0, .inl (cC, 120, .inl gT))] H_107 := kJoinX hP hD [0, 1, 2, 3, 4] rfl hk1 hFc hB.1 ht hB.2.2 rfl [some 0, some 1, some 2, some 3, some 4] rfl rfl
    have hP := hPD.1
    have hD := hPD.2
    have hw_108 := hw
    refine lv_if_eq (tgt := 48) hx hb dX4_readUnit_31 kc_t_31_17 (fun c_109 => ?_) (fun c_109 => ?_)
    · obtain rfl : xo_105 = false := kBo_f (kZr9 hw_108.1 c_109)
      have hw_108_k := hw_108.2.1.2.1
      refine lv_iconst (v := 0) hx hb dX4_readUnit_48 kc_i_0 ?_
      have hP9 := hP
      have hD9 := hD
      have hK9 := hK
      rw [hQ]
      exact W.zret (v := 0) hx hb hr rfl (fun t ht hW => ⟨⟨0, (S1_102, Wr_103, Pn_104, false, ([])), rfl, ⟨rfl, kPR_f ((kUnitD_s e1 pn).trans (by unfold kUnitF; rw [← hw_6_0, ← hw_6_1]; rw [if_pos (by omega), if_pos rfl, hw_108.2.1.1]; rfl)) (by omega), by omega⟩,  by rw [ht]; exact hP9, va_K.moved hW.alike hK9, hD9⟩, hS.F ht⟩) hS.2.2 dX4_readUnit_49
    · obtain rfl : xo_105 = true := kBo_t (kNz9 hw_108.1 c_109)
      obtain ⟨hw_108_W, hw_108_S, hw_108_l, hw_108_p⟩ := hw_108.2.1.2.2 rfl
      have hw_108_k := hw_108.2.1.2.1
      refine lv_aload_n hx hb dX4_readUnit_34 rfl (lv_at hl 1 rfl) ?_
      refine lv_sipush (v := 20033) hx hb dX4_readUnit_35 kc_s_20033 ?_
      have bd_110 : Wr_103 ≤ 120 := by omega
      have bd_111 : Pn_104 ≤ kt := by omega
      have bd_112 : Wr_103 < 120 := by omega
      have hCu := kCut (wc := [(jR, .inr (4, [.ref jT, .ref r1, .ref r2, .int (nI (Wr_103)), .int (nI (fi)), .int (nI (Pn_104)), .ref q6, .ref q7])), (r1, .inl (c1, 120, .inl S1_102)), (r2, .inl (c2, 124, .inl s2)), (jT, .inr (8, [.ref t0, .int (nI (kt))])), (t0, .inl (cC, 120, .inl gT))]) hP hD hS hA [0, 1, 2, 3, 4] rfl kc_nd_311 rfl
      have hPc := hCu.1
      have hDc := hCu.2.1
      have hFc := hCu.2.2
      have hKc := hK.sb (tys2 := [(c1, .int), (c2, .int), (cC, .char)]) [0, 1, 2] rfl
      refine va_calli (va_runV (As := [.int 20033]) (rest := []) ⟨hx, hb, hml, hown, hts⟩ (s_write4x l dC dI jT t0 cC gT kt hkt hgT bt hbt hb8 jR r1 r2 c1 c2 S1_102 s2 Wr_103 fi q6 q7 bd_110 hfi Pn_104 bd_111 20033 bd_112 H_107.size) (cwV 1 hts (kG (List.forall_mem_cons.mpr ⟨(List.mem_cons_of_mem _ (List.mem_append_left _ (List.mem_of_getElem? (i := 14) rfl))), (List.forall_mem_cons.mpr ⟨(List.mem_cons_of_mem _ (List.mem_append_left _ (List.mem_of_getElem? (i := 13) rfl))), (List.forall_mem_cons.mpr ⟨(List.mem_cons_of_mem _ (List.mem_append_left _ (List.mem_of_getElem? (i := 12) rfl))), (List.forall_mem_cons.mpr ⟨(List.mem_cons_of_mem _ (List.mem_append_left _ (List.mem_of_getElem? (i := 0) rfl))), (fun _ h => absurd h List.not_mem_nil)⟩)⟩)⟩)⟩) (kGV _ _ _ _) (fun _ h => List.mem_cons_of_mem _ (List.mem_append_right _ (List.mem_append_right _ (List.mem_append_right _ (List.mem_append_right _ (List.mem_append_right _ (List.mem_append_left _ h))))))) gw_s_write4x) rfl rfl rfl ⟨rfl, hd_X4_write⟩ ⟨(show 1 + 1 ≤ (9 + 6 * (e1 + 1)) from by omega), (show 8 + (2 + 11) + 60 * 1 ≤ 60 * (9 + 6 * (e1 + 1)) from by omega)⟩) (kW_V kT_blind kT_give (va_recv hKc hPc (ci := 4) (q0 := 0) rfl rfl) hPc hKc hDc) rfl rfl hl.1 rfl (lv_room (Nat.le_of_ble_eq_true rfl)) dX4_readUnit_38 ⟨(Nat.le_of_ble_eq_true rfl), (Nat.le_of_ble_eq_true rfl)⟩) hS (fun q _ h => hFc q h) hFc (fun r_113 => kU2 (fun S1_114 Wr_115 t H_116 locs ht hvm hw hB hz1 hk1 hS => ?_))
      try dsimp only at hw
      have hPD : kPD dC dI A [(jR, .inr (4, [.ref jT, .ref r1, .ref r2, .int (nI (Wr_115)), .int (nI (fi)), .int (nI (Pn_104)), .ref q6, .ref q7])), (r1, .inl (c1, 120, .inl S1_114)), (r2, .inl (c2, 124, .inl s2)), (jT, .inr (8, [.ref t0, .int (nI (kt))])), (t0, .inl (cC, 120, .inl gT))] H_116 := kJoinX hP hD [0, 1, 2, 3, 4] rfl hk1 hFc hB.1 ht hB.2.2 rfl [some 0, some 1, some 2, some 3, some 4] rfl rfl
      have hP := hPD.1
      have hD := hPD.2
      obtain ⟨rfl, hw_117⟩ := hw
      refine lv_if_eq (tgt := 48) hx hb dX4_readUnit_41 kc_t_41_7 (fun c_118 => absurd c_118 (by decide)) (fun c_118 => ?_)
      refine lv_iconst (v := 1) hx hb dX4_readUnit_44 kc_i_1 ?_
      refine lv_goto (tgt := 49) hx hb dX4_readUnit_45 kc_t_45_4 ?_
      have hP9 := hP
      have hD9 := hD
      have hK9 := hK
      rw [hQ]
      exact W.zret (v := 1) hx hb hr rfl (fun t ht hW => ⟨⟨1, (S1_114, Wr_115, Pn_104, true, (xl_106 ++ [20033])), rfl, ⟨rfl, kPR_t (a := kUnitD bt kt g7 n7 (e1 + 1)) rfl (kUnitD_good hz7 (e1 + 1)) (by omega) ((kUnitD_s e1 pn).trans (by unfold kUnitF; rw [← hw_6_0, ← hw_6_1]; rw [if_pos (by omega), if_pos rfl, hw_108.2.1.1, kTh_t])) (by simp only [List.length_append, List.length_cons, List.length_nil]; omega) (kWrt2 hw_108_S hw_108_W hw_117.2), by omega⟩,  by rw [ht]; exact hP9, va_K.moved hW.alike hK9, hD9⟩, hS.F ht⟩) hS.2.2 dX4_readUnit_49

def w_s_unit4x_g_1 : List Cond := .code yX4_readUnit cX4_readUnit 4 (some .boolean) :: wf_rq
theorem gw_s_unit4x_g_1 : (w_s_unit4x_g_1).all goodWord = true := kFamG rfl gf_rq
set_option maxHeartbeats 4000000 in
set_option maxRecDepth 100000 in
theorem s_unit4x_g_1 (l : Launch) (dC : Nat → ClassId) (dI : Nat → Nat → Nat) (jT : Nat) (t0 : Nat) (cC : ClassId) (gT : Nat → Int32) (kt : Nat) (hkt : kt ≤ 120) (hgT : ∀ j : Nat, narrow .char (.int (gT j)) = .int (gT j)) (bt : Nat → Nat) (hbt : ∀ j : Nat, gT j = nI (bt j)) (hb8 : ∀ j : Nat, bt j < 256) (jR : Nat) (r1 : Nat) (r2 : Nat) (c1 : ClassId) (c2 : ClassId) (s1 : Nat → Int32) (s2 : Nat → Int32) (wr : Nat) (fi : Nat) (q6 : Nat) (q7 : Nat) (hwr : wr ≤ 120) (hfi : fi ≤ 124) (pn : Nat) (hpn : pn ≤ kt) (hwp : wr ≤ pn) (b6 : Nat) (n6 : Nat) (g6 : Nat → Int32) (hn6 : n6 ≤ 8) (b7 : Nat) (n7 : Nat) (g7 : Nat → Int32) (hn7 : n7 ≤ 8) (gn6 : ∀ k : Nat, ∃ v : Nat, v < 128 ∧ g6 k = nI v) (hz6 : kIx g6 n6 (nI 0) = n6) (gn7 : ∀ k : Nat, ∃ v : Nat, v < 128 ∧ g7 k = nI v) (hz7 : kIx g7 n7 (nI 0) = n7) (e1 : Nat) (dd : Nat) (hdd : dd + e1 = 5) (ih : kIHq e1) (sz : Nat) : Met l yX4_readUnit w_s_unit4x_g_1 ({ frames := (9 + 6 * (e1 + 1)), cells := 0, slots := 0, locals := 60 * (9 + 6 * (e1 + 1)) }) (kW dC dI [.ref jR, .int (nI (dd)), .int 1] [(jR, .inr (4, [.ref jT, .ref r1, .ref r2, .int (nI (wr)), .int (nI (fi)), .int (nI (pn)), .ref q6, .ref q7])), (r1, .inl (c1, 120, .inl s1)), (r2, .inl (c2, 124, .inl s2)), (jT, .inr (8, [.ref t0, .int (nI (kt))])), (t0, .inl (cC, 120, .inl gT))] [(c1, .int), (c2, .int), (cC, .char)] (kS2 q6 b6 n6 g6 q7 b7 n7 g7 (va_A [(jR, .inr (4, [.ref jT, .ref r1, .ref r2, .int (nI (wr)), .int (nI (fi)), .int (nI (pn)), .ref q6, .ref q7])), (r1, .inl (c1, 120, .inl s1)), (r2, .inl (c2, 124, .inl s2)), (jT, .inr (8, [.ref t0, .int (nI (kt))])), (t0, .inl (cC, 120, .inl gT))] sz)) sz) (va_Qi (fun (r : Int32) (u : (Nat → Int32) × Nat × Nat × Bool × (List Int32)) => match u with | (S1, Wr, Pn, xo, xl) => (r = kBo xo ∧ kPR (kUnitZ bt kt g7 n7 (e1 + 1) pn) pn kt wr s1 xo Pn xl Wr S1 ∧ Wr ≤ 120)) (fun (u : (Nat → Int32) × Nat × Nat × Bool × (List Int32)) => match u with | (S1, Wr, Pn, xo, xl) => fun t : State => kB dC dI [(jR, .inr (4, [.ref jT, .ref r1, .ref r2, .int (nI (Wr)), .int (nI (fi)), .int (nI (Pn)), .ref q6, .ref q7])), (r1, .inl (c1, 120, .inl S1)), (r2, .inl (c2, 124, .inl s2)), (jT, .inr (8, [.ref t0, .int (nI (kt))])), (t0, .inl (cC, 120, .inl gT))] [(c1, .int), (c2, .int), (cC, .char)] (va_A [(jR, .inr (4, [.ref jT, .ref r1, .ref r2, .int (nI (wr)), .int (nI (fi)), .int (nI (pn)), .ref q6, .ref q7])), (r1, .inl (c1, 120, .inl s1)), (r2, .inl (c2, 124, .inl s2)), (jT, .inr (8, [.ref t0, .int (nI (kt))])), (t0, .inl (cC, 120, .inl gT))] sz) t) (va_A [(jR, .inr (4, [.ref jT, .ref r1, .ref r2, .int (nI (wr)), .int (nI (fi)), .int (nI (pn)), .ref q6, .ref q7])), (r1, .inl (c1, 120, .inl s1)), (r2, .inl (c2, 124, .inl s2)), (jT, .inr (8, [.ref t0, .int (nI (kt))])), (t0, .inl (cC, 120, .inl gT))] sz)) 0 0 (va_A [(jR, .inr (4, [.ref jT, .ref r1, .ref r2, .int (nI (wr)), .int (nI (fi)), .int (nI (pn)), .ref q6, .ref q7])), (r1, .inl (c1, 120, .inl s1)), (r2, .inl (c2, 124, .inl s2)), (jT, .inr (8, [.ref t0, .int (nI (kt))])), (t0, .inl (cC, 120, .inl gT))] sz) := by
  refine Met.ofW (cc := cX4_readUnit) (maxL := 4) (ret := (some .boolean)) (by decide) rfl ?_
  intro p e s m args below meth c s₁ B hml hv
  obtain ⟨rfl, hsz, hP, hK, hD0, hX⟩ := hv
  have hx := B.exec
  have hb := B.bytes
  have hr := B.returns
  have hts := atoms_spec (ws := w_s_unit4x_g_1) B.pre
  have hown : s.vm.findClass RX4 = some m.cls := findClass_of_methodNamed B.named
  have hlocks := B.notSynchronized
  subst hsz
  have hD := hD0.self (sz := s.heap.size)
  generalize hAe : va_A [(jR, .inr (4, [.ref jT, .ref r1, .ref r2, .int (nI (wr)), .int (nI (fi)), .int (nI (pn)), .ref q6, .ref q7])), (r1, .inl (c1, 120, .inl s1)), (r2, .inl (c2, 124, .inl s2)), (jT, .inr (8, [.ref t0, .int (nI (kt))])), (t0, .inl (cC, 120, .inl gT))] s.heap.size = A at hD hX ⊢
  have hA : ∀ q : Nat, s.heap.size ≤ q → A q := fun q h => by rw [← hAe]; exact Or.inr h
  have hS : va_S A s.heap s.heap [] := va_S.rf
  have hP : va_P (dC, dI) vwCl [(jR, .inr (4, [.ref jT, .ref r1, .ref r2, .int (nI (wr)), .int (nI (fi)), .int (nI (pn)), .ref q6, .ref q7])), (r1, .inl (c1, 120, .inl s1)), (r2, .inl (c2, 124, .inl s2)), (jT, .inr (8, [.ref t0, .int (nI (kt))])), (t0, .inl (cC, 120, .inl gT))] s.heap := hP
  have hl := lv_entry ([.ref jR, .int (nI (dd)), .int 1]) (n := 4) (Nat.le_of_ble_eq_true rfl)
  rw [lg_entry_eq]
  generalize (lg_sl ([.ref jR, .int (nI (dd)), .int 1]) ++ List.replicate (4 - (lg_sl ([.ref jR, .int (nI (dd)), .int 1])).length) Slot.unset).toArray = ls at hl ⊢
  have hl : lv_has ls 4 [(0, .ref jR), (1, .int (nI (dd))), (2, .int 1)] := hl
  refine kQ (fun Q hQ => ?_)
  refine lv_iload_n hx hb dX4_readUnit_0 rfl (lv_at hl 2 rfl) ?_
  refine lv_if_ne (tgt := 100) hx hb dX4_readUnit_1 kc_t_1_99 (fun c_1 => ?_) (fun c_1 => absurd c_1 (by decide))
  refine lv_aload_n hx hb dX4_readUnit_100 rfl (lv_at hl 0 rfl) ?_
  have hCu := kCut (wc := [(jR, .inr (4, [.ref jT, .ref r1, .ref r2, .int (nI (wr)), .int (nI (fi)), .int (nI (pn)), .ref q6, .ref q7])), (r1, .inl (c1, 120, .inl s1)), (r2, .inl (c2, 124, .inl s2)), (jT, .inr (8, [.ref t0, .int (nI (kt))])), (t0, .inl (cC, 120, .inl gT))]) hP hD hS hA [0, 1, 2, 3, 4] rfl kc_nd_311 rfl
  have hPc := hCu.1
  have hDc := hCu.2.1
  have hFc := hCu.2.2
  have hKc := hK.sb (tys2 := [(c1, .int), (c2, .int), (cC, .char)]) [0, 1, 2] rfl
  refine va_calli (va_runV (As := []) (rest := []) ⟨hx, hb, hml, hown, hts⟩ (s_look4x l dC dI jT t0 cC gT kt hkt hgT bt hbt hb8 jR r1 r2 c1 c2 s1 s2 wr fi q6 q7 hwr hfi pn hpn s.heap.size) (cwV 0 hts (kG (List.forall_mem_cons.mpr ⟨(List.mem_cons_of_mem _ (List.mem_append_left _ (List.mem_of_getElem? (i := 3) rfl))), (List.forall_mem_cons.mpr ⟨(List.mem_cons_of_mem _ (List.mem_append_left _ (List.mem_of_getElem? (i := 2) rfl))), (List.forall_mem_cons.mpr ⟨(List.mem_cons_of_mem _ (List.mem_append_left _ (List.mem_of_getElem? (i := 1) rfl))), (List.forall_mem_cons.mpr ⟨(List.mem_cons_of_mem _ (List.mem_append_left _ (List.mem_of_getElem? (i := 0) rfl))), (fun _ h => absurd h List.not_mem_nil)⟩)⟩)⟩)⟩) (kGV _ _ _ _) (fun _ h => List.mem_cons_of_mem _ (List.mem_append_right _ (List.mem_append_left _ h))) gw_s_look4x) rfl rfl rfl ⟨rfl, hd_X4_look⟩ ⟨(show 2 + 1 ≤ (9 + 6 * (e1 + 1)) from by omega), (show 8 + (2 + 11) + 60 * 2 ≤ 60 * (9 + 6 * (e1 + 1)) from by omega)⟩) (kW_V kT_blind kT_give (va_recv hKc hPc (ci := 4) (q0 := 0) rfl rfl) hPc hKc hDc) rfl rfl hl.1 rfl (lv_room (Nat.le_of_ble_eq_true rfl)) dX4_readUnit_101 ⟨(Nat.le_of_ble_eq_true rfl), (Nat.le_of_ble_eq_true rfl)⟩) hS (fun q _ h => hFc q h) hFc (fun r_2 => kU2 (fun Pn_3 ch_4 t H_5 locs ht hvm hw hB hz1 hk1 hS => ?_))
  try dsimp only at hw
  have hPD : kPD dC dI A [(jR, .inr (4, [.ref jT, .ref r1, .ref r2, .int (nI (wr)), .int (nI (fi)), .int (nI (Pn_3)), .ref q6, .ref q7])), (r1, .inl (c1, 120, .inl s1)), (r2, .inl (c2, 124, .inl s2)), (jT, .inr (8, [.ref t0, .int (nI (kt))])), (t0, .inl (cC, 120, .inl gT))] H_5 := kJoinX hP hD [0, 1, 2, 3, 4] rfl hk1 hFc hB.1 ht hB.2.2 rfl [some 0, some 1, some 2, some 3, some 4] rfl rfl
  have hP := hPD.1
  have hD := hPD.2
  obtain ⟨rfl, hw_6_0, hw_6_1, hw_6_2, hw_6_3, hw_6_4, hw_6_5, hw_6_6⟩ := hw
  refine lv_istore_n hx hb dX4_readUnit_104 rfl hl kc_l_3_4 (kTo [(3, .int (nI (ch_4))), (0, .ref jR), (1, .int (nI (dd))), (2, .int 1)]) (fun ls hl => ?_)
  refine lv_iload_n hx hb dX4_readUnit_105 rfl (lv_at hl 0 rfl) ?_
  have bd_7 : ch_4 < 256 := by omega
  have hPc := hP.sb (ws2 := []) [] rfl
  have hKc := hK.sb (tys2 := []) [] rfl
  refine vp_callSi (va_runS (As := [.int (nI (ch_4))]) (rest := []) ⟨hx, hb, hml, hown, hts⟩ (s_comp4x l dC dI ch_4 bd_7) (va_cwS 1 hts (kG (List.forall_mem_cons.mpr ⟨(List.mem_cons_of_mem _ (List.mem_append_left _ (List.mem_of_getElem? (i := 34) rfl))), (List.forall_mem_cons.mpr ⟨(List.mem_cons_of_mem _ (List.mem_append_left _ (List.mem_of_getElem? (i := 33) rfl))), (List.forall_mem_cons.mpr ⟨(List.mem_cons_of_mem _ (List.mem_append_left _ (List.mem_of_getElem? (i := 0) rfl))), (fun _ h => absurd h List.not_mem_nil)⟩)⟩)⟩) (kGS _ _ _) (fun _ h => List.mem_cons_of_mem _ (List.mem_append_right _ (List.mem_append_right _ (List.mem_append_right _ (List.mem_append_right _ (List.mem_append_right _ (List.mem_append_right _ (List.mem_append_right _ (List.mem_append_right _ (List.mem_append_left _ h)))))))))) gw_s_comp4x) rfl rfl rfl hd_X4_isComparison ⟨(show 1 + 1 ≤ (9 + 6 * (e1 + 1)) from by omega), (show 8 + (1 + 11) + 60 * 1 ≤ 60 * (9 + 6 * (e1 + 1)) from by omega)⟩) (kR_S kT_blind kT_give hPc hKc) rfl rfl hl.1 rfl (lv_room (Nat.le_of_ble_eq_true rfl)) dX4_readUnit_106 ⟨(Nat.le_of_ble_eq_true rfl), (Nat.le_of_ble_eq_true rfl)⟩).run (fun r_8 hw => ?_)
  have hw_9 := hw
  refine lv_if_ne (tgt := 114) hx hb dX4_readUnit_109 kc_t_109_5 (fun c_10 => ?_) (fun c_10 => ?_)
  · have hcp := hw_9.mp c_10
    refine lv_aload_n hx hb dX4_readUnit_114 rfl (lv_at hl 1 rfl) ?_
    refine lv_dup hx hb dX4_readUnit_115 rfl ?_
    refine va_get (D := (dC, dI)) (ci := 4) (v := .int (nI (Pn_3))) (C := RX4) (T := TX4) (N := 8) hx hb hts (fun _ h => List.mem_cons_of_mem _ (List.mem_append_right _ (List.mem_append_right _ (List.mem_append_right _ (List.mem_append_left _ h))))) hown hK hP 0 rfl rfl 5 kc_l_5_8 (hts (.fieldLink RX4 25 "NotEnded$Reader" "place" "I") (List.mem_cons_of_mem _ (List.mem_append_left _ (List.mem_of_getElem? (i := 11) rfl)))) (fun _ h9 => h9) rfl dX4_readUnit_116 ?_
    refine lv_iconst (v := 1) hx hb dX4_readUnit_119 kc_i_1 ?_
    refine lv_iadd hx hb dX4_readUnit_120 ?_
    refine lv_topi (fun y_11 ey_11 => ?_)
    obtain rfl : y_11 = nI (Pn_3 + 1) := ey_11.trans (nI_add (Pn_3) (1))
    refine va_put (D := (dC, dI)) (ci := 4) (v := .int (nI (Pn_3 + 1))) (ty := tyX4 5) (C := RX4) (T := TX4) (N := 8) hx hb hts (fun _ h => List.mem_cons_of_mem _ (List.mem_append_right _ (List.mem_append_right _ (List.mem_append_right _ (List.mem_append_left _ h))))) tyX4 tyX4_ok nmX4 hown hK hP hD hS 0 rfl rfl 5 kc_l_5_8 (hts (.fieldLink RX4 25 "NotEnded$Reader" "place" "I") (List.mem_cons_of_mem _ (List.mem_append_left _ (List.mem_of_getElem? (i := 11) rfl)))) (fun _ h9 => h9) rfl (tyX4_ok 5 kc_l_5_8) rfl rfl (Nat.le_of_ble_eq_true rfl) dX4_readUnit_121 (fun H locs hP hD hS => ?_)
    have hPD : kPD dC dI A [(jR, .inr (4, [.ref jT, .ref r1, .ref r2, .int (nI (wr)), .int (nI (fi)), .int (nI (Pn_3 + 1)), .ref q6, .ref q7])), (r1, .inl (c1, 120, .inl s1)), (r2, .inl (c2, 124, .inl s2)), (jT, .inr (8, [.ref t0, .int (nI (kt))])), (t0, .inl (cC, 120, .inl gT))] H := ⟨hP, hD⟩
    have hP := hPD.1
    have hD := hPD.2
    refine lv_aload_n hx hb dX4_readUnit_124 rfl (lv_at hl 1 rfl) ?_
    refine lv_iload_n hx hb dX4_readUnit_125 rfl (lv_at hl 2 rfl) ?_
    have bd_12 : (Pn_3 + 1) ≤ kt := by omega
    have bd_13 : wr ≤ (Pn_3 + 1) := by omega
    have bd_14 : dd + e1 = 5 := by omega
    have hCu := kCut (wc := [(jR, .inr (4, [.ref jT, .ref r1, .ref r2, .int (nI (wr)), .int (nI (fi)), .int (nI (Pn_3 + 1)), .ref q6, .ref q7])), (r1, .inl (c1, 120, .inl s1)), (r2, .inl (c2, 124, .inl s2)), (jT, .inr (8, [.ref t0, .int (nI (kt))])), (t0, .inl (cC, 120, .inl gT))]) hP hD hS hA [0, 1, 2, 3, 4] rfl kc_nd_311 rfl
    have hPc := hCu.1
    have hDc := hCu.2.1
    have hFc := hCu.2.2
    have hKc := hK.sb (tys2 := [(c1, .int), (c2, .int), (cC, .char)]) [0, 1, 2] rfl
    refine va_calli (va_runV (As := [.int (nI (dd))]) (rest := []) ⟨hx, hb, hml, hown, hts⟩ (s_sum4x_g l dC dI jT t0 cC gT kt hkt hgT bt hbt hb8 jR r1 r2 c1 c2 s1 s2 wr fi q6 q7 hwr hfi (Pn_3 + 1) bd_12 bd_13 b6 n6 g6 hn6 b7 n7 g7 hn7 gn6 hz6 gn7 hz7 e1 dd bd_14 ih H.size) (cwV 1 hts (kG (List.forall_mem_cons.mpr ⟨(List.mem_cons_of_mem _ (List.mem_append_left _ (List.mem_of_getElem? (i := 32) rfl))), (List.forall_mem_cons.mpr ⟨(List.mem_cons_of_mem _ (List.mem_append_left _ (List.mem_of_getElem? (i := 31) rfl))), (List.forall_mem_cons.mpr ⟨(List.mem_cons_of_mem _ (List.mem_append_left _ (List.mem_of_getElem? (i := 30) rfl))), (List.forall_mem_cons.mpr ⟨(List.mem_cons_of_mem _ (List.mem_append_left _ (List.mem_of_getElem? (i := 0) rfl))), (fun _ h => absurd h List.not_mem_nil)⟩)⟩)⟩)⟩) (kGV _ _ _ _) (kFam (List.mem_cons_of_mem _ (List.mem_append_left _ (List.mem_of_getElem? (i := 29) rfl)))) gw_s_sum4x_g) rfl rfl rfl ⟨rfl, hd_X4_readSum⟩ ⟨(show (8 + 6 * (e1 + 1)) + 1 ≤ (9 + 6 * (e1 + 1)) from by omega), (show 8 + (4 + 11) + 60 * (8 + 6 * (e1 + 1)) ≤ 60 * (9 + 6 * (e1 + 1)) from by omega)⟩) (kW_V kS2_blind (kS2_give hX hS hFc) (va_recv hKc hPc (ci := 4) (q0 := 0) rfl rfl) hPc hKc hDc) rfl rfl hl.1 rfl (lv_room (Nat.le_of_ble_eq_true rfl)) dX4_readUnit_126 ⟨(Nat.le_of_ble_eq_true rfl), (Nat.le_of_ble_eq_true rfl)⟩) hS (fun q _ h => hFc q h) hFc (fun r_15 => kU5 (fun S1_16 Wr_17 Pn_18 xo_19 xl_20 t H_21 locs ht hvm hw hB hz1 hk1 hS => ?_))
    try dsimp only at hw
    have hPD : kPD dC dI A [(jR, .inr (4, [.ref jT, .ref r1, .ref r2, .int (nI (Wr_17)), .int (nI (fi)), .int (nI (Pn_18)), .ref q6, .ref q7])), (r1, .inl (c1, 120, .inl S1_16)), (r2, .inl (c2, 124, .inl s2)), (jT, .inr (8, [.ref t0, .int (nI (kt))])), (t0, .inl (cC, 120, .inl gT))] H_21 := kJoinX hP hD [0, 1, 2, 3, 4] rfl hk1 hFc hB.1 ht hB.2.2 rfl [some 0, some 1, some 2, some 3, some 4] rfl rfl
    have hP := hPD.1
    have hD := hPD.2
    have hw_22 := hw
    refine lv_if_eq (tgt := 148) hx hb dX4_readUnit_129 kc_t_129_19 (fun c_23 => ?_) (fun c_23 => ?_)
    · obtain rfl : xo_19 = false := kBo_f (kZr9 hw_22.1 c_23)
      have hw_22_k := hw_22.2.1.2.1
      refine lv_iconst (v := 0) hx hb dX4_readUnit_148 kc_i_0 ?_
      have hP9 := hP
      have hD9 := hD
      have hK9 := hK
      rw [hQ]
      exact W.zret (v := 0) hx hb hr rfl (fun t ht hW => ⟨⟨0, (S1_16, Wr_17, Pn_18, false, ([])), rfl, ⟨rfl, kPR_f (by show kCmp bt kt g7 n7 (e1 + 1) pn [] = _; unfold kCmp; rw [← hw_6_0, ← hw_6_1, if_pos (by omega), hw_22.2.1.1]; rfl) (by omega), by omega⟩,  by rw [ht]; exact hP9, va_K.moved hW.alike hK9, hD9⟩, hS.F ht⟩) hS.2.2 dX4_readUnit_149
    · obtain rfl : xo_19 = true := kBo_t (kNz9 hw_22.1 c_23)
      obtain ⟨hw_22_W, hw_22_S, hw_22_l, hw_22_p⟩ := hw_22.2.1.2.2 rfl
      have hw_22_k := hw_22.2.1.2.1
      refine lv_aload_n hx hb dX4_readUnit_132 rfl (lv_at hl 1 rfl) ?_
      refine lv_sipush (v := 20000) hx hb dX4_readUnit_133 kc_s_20000 ?_
      refine lv_iload_n hx hb dX4_readUnit_136 rfl (lv_at hl 0 rfl) ?_
      refine lv_iadd hx hb dX4_readUnit_137 ?_
      refine lv_topi (fun y_24 ey_24 => ?_)
      obtain rfl : y_24 = nI (20000 + ch_4) := ey_24.trans (nI_add (20000) (ch_4))
      have bd_25 : Wr_17 ≤ 120 := by omega
      have bd_26 : Pn_18 ≤ kt := by omega
      have bd_27 : Wr_17 < 120 := by omega
      have hCu := kCut (wc := [(jR, .inr (4, [.ref jT, .ref r1, .ref r2, .int (nI (Wr_17)), .int (nI (fi)), .int (nI (Pn_18)), .ref q6, .ref q7])), (r1, .inl (c1, 120, .inl S1_16)), (r2, .inl (c2, 124, .inl s2)), (jT, .inr (8, [.ref t0, .int (nI (kt))])), (t0, .inl (cC, 120, .inl gT))]) hP hD hS hA [0, 1, 2, 3, 4] rfl kc_nd_311 rfl
      have hPc := hCu.1
      have hDc := hCu.2.1
      have hFc := hCu.2.2
      have hKc := hK.sb (tys2 := [(c1, .int), (c2, .int), (cC, .char)]) [0, 1, 2] rfl
      refine va_calli (va_runV (As := [.int (nI (20000 + ch_4))]) (rest := []) ⟨hx, hb, hml, hown, hts⟩ (s_write4x l dC dI jT t0 cC gT kt hkt hgT bt hbt hb8 jR r1 r2 c1 c2 S1_16 s2 Wr_17 fi q6 q7 bd_25 hfi Pn_18 bd_26 (nI (20000 + ch_4)) bd_27 H_21.size) (cwV 1 hts (kG (List.forall_mem_cons.mpr ⟨(List.mem_cons_of_mem _ (List.mem_append_left _ (List.mem_of_getElem? (i := 14) rfl))), (List.forall_mem_cons.mpr ⟨(List.mem_cons_of_mem _ (List.mem_append_left _ (List.mem_of_getElem? (i := 13) rfl))), (List.forall_mem_cons.mpr ⟨(List.mem_cons_of_mem _ (List.mem_append_left _ (List.mem_of_getElem? (i := 12) rfl))), (List.forall_mem_cons.mpr ⟨(List.mem_cons_of_mem _ (List.mem_append_left _ (List.mem_of_getElem? (i := 0) rfl))), (fun _ h => absurd h List.not_mem_nil)⟩)⟩)⟩)⟩) (kGV _ _ _ _) (fun _ h => List.mem_cons_of_mem _ (List.mem_append_right _ (List.mem_append_right _ (List.mem_append_right _ (List.mem_append_right _ (List.mem_append_right _ (List.mem_append_left _ h))))))) gw_s_write4x) rfl rfl rfl ⟨rfl, hd_X4_write⟩ ⟨(show 1 + 1 ≤ (9 + 6 * (e1 + 1)) from by omega), (show 8 + (2 + 11) + 60 * 1 ≤ 60 * (9 + 6 * (e1 + 1)) from by omega)⟩) (kW_V kT_blind kT_give (va_recv hKc hPc (ci := 4) (q0 := 0) rfl rfl) hPc hKc hDc) rfl rfl hl.1 rfl (lv_room (Nat.le_of_ble_eq_true rfl)) dX4_readUnit_138 ⟨(Nat.le_of_ble_eq_true rfl), (Nat.le_of_ble_eq_true rfl)⟩) hS (fun q _ h => hFc q h) hFc (fun r_28 => kU2 (fun S1_29 Wr_30 t H_31 locs ht hvm hw hB hz1 hk1 hS => ?_))
      try dsimp only at hw
      have hPD : kPD dC dI A [(jR, .inr (4, [.ref jT, .ref r1, .ref r2, .int (nI (Wr_30)), .int (nI (fi)), .int (nI (Pn_18)), .ref q6, .ref q7])), (r1, .inl (c1, 120, .inl S1_29)), (r2, .inl (c2, 124, .inl s2)), (jT, .inr (8, [.ref t0, .int (nI (kt))])), (t0, .inl (cC, 120, .inl gT))] H_31 := kJoinX hP hD [0, 1, 2, 3, 4] rfl hk1 hFc hB.1 ht hB.2.2 rfl [some 0, some 1, some 2, some 3, some 4] rfl rfl
      have hP := hPD.1
      have hD := hPD.2
      obtain ⟨rfl, hw_32⟩ := hw
      refine lv_if_eq (tgt := 148) hx hb dX4_readUnit_141 kc_t_141_7 (fun c_33 => absurd c_33 (by decide)) (fun c_33 => ?_)
      refine lv_iconst (v := 1) hx hb dX4_readUnit_144 kc_i_1 ?_
      refine lv_goto (tgt := 149) hx hb dX4_readUnit_145 kc_t_145_4 ?_
      have hP9 := hP
      have hD9 := hD
      have hK9 := hK
      rw [hQ]
      exact W.zret (v := 1) hx hb hr rfl (fun t ht hW => ⟨⟨1, (S1_29, Wr_30, Pn_18, true, ([] ++ xl_20 ++ [nI (20000 + ch_4)])), rfl, ⟨rfl, kPR_t (a := kUnitZ bt kt g7 n7 (e1 + 1)) rfl (kUnitZ_good hz7 (e1 + 1)) (by omega) (by show kCmp bt kt g7 n7 (e1 + 1) pn [] = _; unfold kCmp; rw [← hw_6_0, ← hw_6_1, if_pos (by omega), hw_22.2.1.1, kTh_t]) (by simp only [List.length_append, List.length_cons, List.length_nil]; omega) (kWrt2 hw_22_S hw_22_W hw_32.2), by omega⟩,  by rw [ht]; exact hP9, va_K.moved hW.alike hK9, hD9⟩, hS.F ht⟩) hS.2.2 dX4_readUnit_149
  · have hcp : ¬ (ch_4 = 61 ∨ ch_4 = 60 ∨ ch_4 = 62) := fun z9 => hw_9.mpr z9 c_10
    refine lv_iconst (v := 0) hx hb dX4_readUnit_112 kc_i_0 ?_
    have hP9 := hP
    have hD9 := hD
    have hK9 := hK
    rw [hQ]
    exact W.zret (v := 0) hx hb hr rfl (fun t ht hW => ⟨⟨0, (s1, wr, Pn_3, false, ([])), rfl, ⟨rfl, kPR_f (by show kCmp bt kt g7 n7 (e1 + 1) pn [] = _; unfold kCmp; rw [← hw_6_0, ← hw_6_1, if_neg (by omega)]) (by omega), by omega⟩,  by rw [ht]; exact hP9, va_K.moved hW.alike hK9, hD9⟩, hS.F ht⟩) hS.2.2 dX4_readUnit_113

def w_s_truth4x_g_0 : List Cond := .code yX4_readTruth cX4_readTruth 4 (some .boolean) :: wf_rq
theorem gw_s_truth4x_g_0 : (w_s_truth4x_g_0).all goodWord = true := kFamG rfl gf_rq
set_option maxHeartbeats 4000000 in
set_option maxRecDepth 100000 in
theorem s_truth4x_g_0 (l : Launch) (dC : Nat → ClassId) (dI : Nat → Nat → Nat) (jT : Nat) (t0 : Nat) (cC : ClassId) (gT : Nat → Int32) (kt : Nat) (hkt : kt ≤ 120) (hgT : ∀ j : Nat, narrow .char (.int (gT j)) = .int (gT j)) (bt : Nat → Nat) (hbt : ∀ j : Nat, gT j = nI (bt j)) (hb8 : ∀ j : Nat, bt j < 256) (jR : Nat) (r1 : Nat) (r2 : Nat) (c1 : ClassId) (c2 : ClassId) (s1 : Nat → Int32) (s2 : Nat → Int32) (wr : Nat) (fi : Nat) (q6 : Nat) (q7 : Nat) (hwr : wr ≤ 120) (hfi : fi ≤ 124) (pn : Nat) (hpn : pn ≤ kt) (hwp : wr ≤ pn) (b6 : Nat) (n6 : Nat) (g6 : Nat → Int32) (hn6 : n6 ≤ 8) (b7 : Nat) (n7 : Nat) (g7 : Nat → Int32) (hn7 : n7 ≤ 8) (gn6 : ∀ k : Nat, ∃ v : Nat, v < 128 ∧ g6 k = nI v) (hz6 : kIx g6 n6 (nI 0) = n6) (gn7 : ∀ k : Nat, ∃ v : Nat, v < 128 ∧ g7 k = nI v) (hz7 : kIx g7 n7 (nI 0) = n7) (e1 : Nat) (dd : Nat) (hdd : dd + e1 = 5) (ih : kIHq e1) (sz : Nat) : Met l yX4_readTruth w_s_truth4x_g_0 ({ frames := (10 + 6 * (e1 + 1)), cells := 0, slots := 0, locals := 60 * (10 + 6 * (e1 + 1)) }) (kW dC dI [.ref jR, .int (nI (dd)), .int 0] [(jR, .inr (4, [.ref jT, .ref r1, .ref r2, .int (nI (wr)), .int (nI (fi)), .int (nI (pn)), .ref q6, .ref q7])), (r1, .inl (c1, 120, .inl s1)), (r2, .inl (c2, 124, .inl s2)), (jT, .inr (8, [.ref t0, .int (nI (kt))])), (t0, .inl (cC, 120, .inl gT))] [(c1, .int), (c2, .int), (cC, .char)] (kS2 q6 b6 n6 g6 q7 b7 n7 g7 (va_A [(jR, .inr (4, [.ref jT, .ref r1, .ref r2, .int (nI (wr)), .int (nI (fi)), .int (nI (pn)), .ref q6, .ref q7])), (r1, .inl (c1, 120, .inl s1)), (r2, .inl (c2, 124, .inl s2)), (jT, .inr (8, [.ref t0, .int (nI (kt))])), (t0, .inl (cC, 120, .inl gT))] sz)) sz) (va_Qi (fun (r : Int32) (u : (Nat → Int32) × Nat × Nat × Bool × (List Int32)) => match u with | (S1, Wr, Pn, xo, xl) => (r = kBo xo ∧ kPR (kTruD bt kt g7 n7 (e1 + 1) pn) pn kt wr s1 xo Pn xl Wr S1 ∧ Wr ≤ 120)) (fun (u : (Nat → Int32) × Nat × Nat × Bool × (List Int32)) => match u with | (S1, Wr, Pn, xo, xl) => fun t : State => kB dC dI [(jR, .inr (4, [.ref jT, .ref r1, .ref r2, .int (nI (Wr)), .int (nI (fi)), .int (nI (Pn)), .ref q6, .ref q7])), (r1, .inl (c1, 120, .inl S1)), (r2, .inl (c2, 124, .inl s2)), (jT, .inr (8, [.ref t0, .int (nI (kt))])), (t0, .inl (cC, 120, .inl gT))] [(c1, .int), (c2, .int), (cC, .char)] (va_A [(jR, .inr (4, [.ref jT, .ref r1, .ref r2, .int (nI (wr)), .int (nI (fi)), .int (nI (pn)), .ref q6, .ref q7])), (r1, .inl (c1, 120, .inl s1)), (r2, .inl (c2, 124, .inl s2)), (jT, .inr (8, [.ref t0, .int (nI (kt))])), (t0, .inl (cC, 120, .inl gT))] sz) t) (va_A [(jR, .inr (4, [.ref jT, .ref r1, .ref r2, .int (nI (wr)), .int (nI (fi)), .int (nI (pn)), .ref q6, .ref q7])), (r1, .inl (c1, 120, .inl s1)), (r2, .inl (c2, 124, .inl s2)), (jT, .inr (8, [.ref t0, .int (nI (kt))])), (t0, .inl (cC, 120, .inl gT))] sz)) 0 0 (va_A [(jR, .inr (4, [.ref jT, .ref r1, .ref r2, .int (nI (wr)), .int (nI (fi)), .int (nI (pn)), .ref q6, .ref q7])), (r1, .inl (c1, 120, .inl s1)), (r2, .inl (c2, 124, .inl s2)), (jT, .inr (8, [.ref t0, .int (nI (kt))])), (t0, .inl (cC, 120, .inl gT))] sz) := by
  refine Met.ofW (cc := cX4_readTruth) (maxL := 4) (ret := (some .boolean)) (by decide) rfl ?_
  intro p e s m args below meth c s₁ B hml hv
  obtain ⟨rfl, hsz, hP, hK, hD0, hX⟩ := hv
  have hx := B.exec
  have hb := B.bytes
  have hr := B.returns
  have hts := atoms_spec (ws := w_s_truth4x_g_0) B.pre
  have hown : s.vm.findClass RX4 = some m.cls := findClass_of_methodNamed B.named
  have hlocks := B.notSynchronized
  subst hsz
  have hD := hD0.self (sz := s.heap.size)
  generalize hAe : va_A [(jR, .inr (4, [.ref jT, .ref r1, .ref r2, .int (nI (wr)), .int (nI (fi)), .int (nI (pn)), .ref q6, .ref q7])), (r1, .inl (c1, 120, .inl s1)), (r2, .inl (c2, 124, .inl s2)), (jT, .inr (8, [.ref t0, .int (nI (kt))])), (t0, .inl (cC, 120, .inl gT))] s.heap.size = A at hD hX ⊢
  have hA : ∀ q : Nat, s.heap.size ≤ q → A q := fun q h => by rw [← hAe]; exact Or.inr h
  have hS : va_S A s.heap s.heap [] := va_S.rf
  have hP : va_P (dC, dI) vwCl [(jR, .inr (4, [.ref jT, .ref r1, .ref r2, .int (nI (wr)), .int (nI (fi)), .int (nI (pn)), .ref q6, .ref q7])), (r1, .inl (c1, 120, .inl s1)), (r2, .inl (c2, 124, .inl s2)), (jT, .inr (8, [.ref t0, .int (nI (kt))])), (t0, .inl (cC, 120, .inl gT))] s.heap := hP
  have hl := lv_entry ([.ref jR, .int (nI (dd)), .int 0]) (n := 4) (Nat.le_of_ble_eq_true rfl)
  rw [lg_entry_eq]
  generalize (lg_sl ([.ref jR, .int (nI (dd)), .int 0]) ++ List.replicate (4 - (lg_sl ([.ref jR, .int (nI (dd)), .int 0])).length) Slot.unset).toArray = ls at hl ⊢
  have hl : lv_has ls 4 [(0, .ref jR), (1, .int (nI (dd))), (2, .int 0)] := hl
  refine kQ (fun Q hQ => ?_)
  refine lv_aload_n hx hb dX4_readTruth_0 rfl (lv_at hl 0 rfl) ?_
  refine lv_iload_n hx hb dX4_readTruth_1 rfl (lv_at hl 1 rfl) ?_
  refine lv_iload_n hx hb dX4_readTruth_2 rfl (lv_at hl 2 rfl) ?_
  have bd_1 : dd + e1 = 5 := by omega
  have hCu := kCut (wc := [(jR, .inr (4, [.ref jT, .ref r1, .ref r2, .int (nI (wr)), .int (nI (fi)), .int (nI (pn)), .ref q6, .ref q7])), (r1, .inl (c1, 120, .inl s1)), (r2, .inl (c2, 124, .inl s2)), (jT, .inr (8, [.ref t0, .int (nI (kt))])), (t0, .inl (cC, 120, .inl gT))]) hP hD hS hA [0, 1, 2, 3, 4] rfl kc_nd_311 rfl
  have hPc := hCu.1
  have hDc := hCu.2.1
  have hFc := hCu.2.2
  have hKc := hK.sb (tys2 := [(c1, .int), (c2, .int), (cC, .char)]) [0, 1, 2] rfl
  refine va_calli (va_runV (As := [.int (nI (dd)), .int 0]) (rest := []) ⟨hx, hb, hml, hown, hts⟩ (s_unit4x_g_0 l dC dI jT t0 cC gT kt hkt hgT bt hbt hb8 jR r1 r2 c1 c2 s1 s2 wr fi q6 q7 hwr hfi pn hpn hwp b6 n6 g6 hn6 b7 n7 g7 hn7 gn6 hz6 gn7 hz7 e1 dd bd_1 ih s.heap.size) (cwV 2 hts (kG (List.forall_mem_cons.mpr ⟨(List.mem_cons_of_mem _ (List.mem_append_left _ (List.mem_of_getElem? (i := 38) rfl))), (List.forall_mem_cons.mpr ⟨(List.mem_cons_of_mem _ (List.mem_append_left _ (List.mem_of_getElem? (i := 37) rfl))), (List.forall_mem_cons.mpr ⟨(List.mem_cons_of_mem _ (List.mem_append_left _ (List.mem_of_getElem? (i := 36) rfl))), (List.forall_mem_cons.mpr ⟨(List.mem_cons_of_mem _ (List.mem_append_left _ (List.mem_of_getElem? (i := 0) rfl))), (fun _ h => absurd h List.not_mem_nil)⟩)⟩)⟩)⟩) (kGV _ _ _ _) (kFam (List.mem_cons_of_mem _ (List.mem_append_left _ (List.mem_of_getElem? (i := 35) rfl)))) gw_s_unit4x_g_0) rfl rfl rfl ⟨rfl, hd_X4_readUnit⟩ ⟨(show (9 + 6 * (e1 + 1)) + 1 ≤ (10 + 6 * (e1 + 1)) from by omega), (show 8 + (4 + 11) + 60 * (9 + 6 * (e1 + 1)) ≤ 60 * (10 + 6 * (e1 + 1)) from by omega)⟩) (kW_V kS2_blind (kS2_give hX hS hFc) (va_recv hKc hPc (ci := 4) (q0 := 0) rfl rfl) hPc hKc hDc) rfl rfl hl.1 rfl (lv_room (Nat.le_of_ble_eq_true rfl)) dX4_readTruth_3 ⟨(Nat.le_of_ble_eq_true rfl), (Nat.le_of_ble_eq_true rfl)⟩) hS (fun q _ h => hFc q h) hFc (fun r_2 => kU5 (fun S1_3 Wr_4 Pn_5 xo_6 xl_7 t H_8 locs ht hvm hw hB hz1 hk1 hS => ?_))
  try dsimp only at hw
  have hPD : kPD dC dI A [(jR, .inr (4, [.ref jT, .ref r1, .ref r2, .int (nI (Wr_4)), .int (nI (fi)), .int (nI (Pn_5)), .ref q6, .ref q7])), (r1, .inl (c1, 120, .inl S1_3)), (r2, .inl (c2, 124, .inl s2)), (jT, .inr (8, [.ref t0, .int (nI (kt))])), (t0, .inl (cC, 120, .inl gT))] H_8 := kJoinX hP hD [0, 1, 2, 3, 4] rfl hk1 hFc hB.1 ht hB.2.2 rfl [some 0, some 1, some 2, some 3, some 4] rfl rfl
  have hP := hPD.1
  have hD := hPD.2
  have hw_9 := hw
  refine lv_if_ne (tgt := 11) hx hb dX4_readTruth_6 kc_t_6_5 (fun c_10 => ?_) (fun c_10 => ?_)
  · obtain rfl : xo_6 = true := kBo_t (kNz9 hw_9.1 c_10)
    obtain ⟨hw_9_W, hw_9_S, hw_9_l, hw_9_p⟩ := hw_9.2.1.2.2 rfl
    have hw_9_k := hw_9.2.1.2.1
    refine lv_iconst (v := 0) hx hb dX4_readTruth_11 kc_i_0 ?_
    refine lv_istore_n hx hb dX4_readTruth_12 rfl hl kc_l_3_4 (kTo [(3, .int 0), (0, .ref jR), (1, .int (nI (dd))), (2, .int 0)]) (fun ls hl => ?_)
    have lp_k_11 : ∀ (n9 : Nat) (i : Nat) (xs1 : Nat → Int32) (xpn : Nat) (xwr : Nat) (xl : List Int32) (ivk_11_0 : i ≤ 120) (ivk_11_1 : xwr ≤ 120) (ivk_11_2 : xpn ≤ kt) (ivk_11_3 : kLoop bt kt 38 38 (kUnitD bt kt g7 n7 (e1 + 1)) (120 - i) xpn xl = kTruD bt kt g7 n7 (e1 + 1) pn) (ivk_11_4 : xwr = wr + xl.length) (ivk_11_5 : xs1 = kWrt s1 wr xl) (ivk_11_6 : pn + xl.length ≤ xpn) (ivk_11_7 : pn < xpn) (H : Heap) (locs : List Loc) (_ : va_P (dC, dI) vwCl [(jR, .inr (4, [.ref jT, .ref r1, .ref r2, .int (nI (xwr)), .int (nI (fi)), .int (nI (xpn)), .ref q6, .ref q7])), (r1, .inl (c1, 120, .inl xs1)), (r2, .inl (c2, 124, .inl s2)), (jT, .inr (8, [.ref t0, .int (nI (kt))])), (t0, .inl (cC, 120, .inl gT))] H) (_ : va_D A [(jR, .inr (4, [.ref jT, .ref r1, .ref r2, .int (nI (xwr)), .int (nI (fi)), .int (nI (xpn)), .ref q6, .ref q7])), (r1, .inl (c1, 120, .inl xs1)), (r2, .inl (c2, 124, .inl s2)), (jT, .inr (8, [.ref t0, .int (nI (kt))])), (t0, .inl (cC, 120, .inl gT))]) (_ : va_S A s.heap H locs) (ls : Array Slot) (_ : lv_has ls 4 [(3, .int (nI (i))), (0, .ref jR), (1, .int (nI (dd))), (2, .int 0)]) (_ : 120 - i < n9), W p l e (headSpec w_s_truth4x_g_0 ({ frames := (10 + 6 * (e1 + 1)), cells := 0, slots := 0, locals := 60 * (10 + 6 * (e1 + 1)) })).room s m (#[.ref jR, .int (nI (dd)), .int 0] : Array Value) below meth c H locs 0 0 Q (F0 m 13 ls []) := by
      intro n9
      induction n9 with
      | zero => intro i xs1 xpn xwr xl ivk_11_0 ivk_11_1 ivk_11_2 ivk_11_3 ivk_11_4 ivk_11_5 ivk_11_6 ivk_11_7 H locs hP hD hS ls hl hm9; exact absurd hm9 (Nat.not_lt_zero _)
      | succ n9 ih_k_11 =>
        intro i xs1 xpn xwr xl ivk_11_0 ivk_11_1 ivk_11_2 ivk_11_3 ivk_11_4 ivk_11_5 ivk_11_6 ivk_11_7 H locs hP hD hS ls hl hm9
        refine lv_iload_n hx hb dX4_readTruth_13 rfl (lv_at hl 0 rfl) ?_
        refine lv_bipush (v := 120) hx hb dX4_readTruth_14 kc_b_120 ?_
        refine lv_icmp_ge (tgt := 65) hx hb dX4_readTruth_16 kc_t_16_49 (fun c_12 => ?_) (fun c_12 => ?_)
        · have bd_14 : i < 2147483648 := by omega
          have hn_13 := kle (a := 120) (b := i) kc_31_120 bd_14 c_12
          refine lv_iconst (v := 1) hx hb dX4_readTruth_65 kc_i_1 ?_
          have hP9 := hP
          have hD9 := hD
          have hK9 := hK
          rw [hQ]
          exact W.zret (v := 1) hx hb hr rfl (fun t ht hW => ⟨⟨1, (xs1, xwr, xpn, true, xl), rfl, ⟨rfl, kPR_t (a := kTruD bt kt g7 n7 (e1 + 1)) rfl (kTruD_good hz7 (e1 + 1)) (by omega) (by rw [← ivk_11_3, show 120 - i = 0 by omega]; rfl) ivk_11_4 ivk_11_5, by omega⟩,  by rw [ht]; exact hP9, va_K.moved hW.alike hK9, hD9⟩, hS.F ht⟩) hS.2.2 dX4_readTruth_66
        · have bd_16 : i < 2147483648 := by omega
          have hn_15 := knle (a := 120) (b := i) kc_31_120 bd_16 c_12
          refine lv_aload_n hx hb dX4_readTruth_19 rfl (lv_at hl 1 rfl) ?_
          have bd_17 : xwr ≤ 120 := by omega
          have bd_18 : xpn ≤ kt := by omega
          have hCu := kCut (wc := [(jR, .inr (4, [.ref jT, .ref r1, .ref r2, .int (nI (xwr)), .int (nI (fi)), .int (nI (xpn)), .ref q6, .ref q7])), (r1, .inl (c1, 120, .inl xs1)), (r2, .inl (c2, 124, .inl s2)), (jT, .inr (8, [.ref t0, .int (nI (kt))])), (t0, .inl (cC, 120, .inl gT))]) hP hD hS hA [0, 1, 2, 3, 4] rfl kc_nd_311 rfl
          have hPc := hCu.1
          have hDc := hCu.2.1
          have hFc := hCu.2.2
          have hKc := hK.sb (tys2 := [(c1, .int), (c2, .int), (cC, .char)]) [0, 1, 2] rfl
          refine va_calli (va_runV (As := []) (rest := []) ⟨hx, hb, hml, hown, hts⟩ (s_look4x l dC dI jT t0 cC gT kt hkt hgT bt hbt hb8 jR r1 r2 c1 c2 xs1 s2 xwr fi q6 q7 bd_17 hfi xpn bd_18 H.size) (cwV 0 hts (kG (List.forall_mem_cons.mpr ⟨(List.mem_cons_of_mem _ (List.mem_append_left _ (List.mem_of_getElem? (i := 3) rfl))), (List.forall_mem_cons.mpr ⟨(List.mem_cons_of_mem _ (List.mem_append_left _ (List.mem_of_getElem? (i := 2) rfl))), (List.forall_mem_cons.mpr ⟨(List.mem_cons_of_mem _ (List.mem_append_left _ (List.mem_of_getElem? (i := 1) rfl))), (List.forall_mem_cons.mpr ⟨(List.mem_cons_of_mem _ (List.mem_append_left _ (List.mem_of_getElem? (i := 0) rfl))), (fun _ h => absurd h List.not_mem_nil)⟩)⟩)⟩)⟩) (kGV _ _ _ _) (fun _ h => List.mem_cons_of_mem _ (List.mem_append_right _ (List.mem_append_left _ h))) gw_s_look4x) rfl rfl rfl ⟨rfl, hd_X4_look⟩ ⟨(show 2 + 1 ≤ (10 + 6 * (e1 + 1)) from by omega), (show 8 + (2 + 11) + 60 * 2 ≤ 60 * (10 + 6 * (e1 + 1)) from by omega)⟩) (kW_V kT_blind kT_give (va_recv hKc hPc (ci := 4) (q0 := 0) rfl rfl) hPc hKc hDc) rfl rfl hl.1 rfl (lv_room (Nat.le_of_ble_eq_true rfl)) dX4_readTruth_20 ⟨(Nat.le_of_ble_eq_true rfl), (Nat.le_of_ble_eq_true rfl)⟩) hS (fun q _ h => hFc q h) hFc (fun r_19 => kU2 (fun Pn_20 ch_21 t H_22 locs ht hvm hw hB hz1 hk1 hS => ?_))
          try dsimp only at hw
          have hPD : kPD dC dI A [(jR, .inr (4, [.ref jT, .ref r1, .ref r2, .int (nI (xwr)), .int (nI (fi)), .int (nI (Pn_20)), .ref q6, .ref q7])), (r1, .inl (c1, 120, .inl xs1)), (r2, .inl (c2, 124, .inl s2)), (jT, .inr (8, [.ref t0, .int (nI (kt))])), (t0, .inl (cC, 120, .inl gT))] H_22 := kJoinX hP hD [0, 1, 2, 3, 4] rfl hk1 hFc hB.1 ht hB.2.2 rfl [some 0, some 1, some 2, some 3, some 4] rfl rfl
          have hP := hPD.1
          have hD := hPD.2
          obtain ⟨rfl, hw_23_0, hw_23_1, hw_23_2, hw_23_3, hw_23_4, hw_23_5, hw_23_6⟩ := hw
          refine lv_bipush (v := 38) hx hb dX4_readTruth_23 kc_b_38 ?_
          refine lv_icmp_ne (tgt := 65) hx hb dX4_readTruth_25 kc_t_25_40 (fun c_24 => ?_) (fun c_24 => ?_)
          · have bd_26 : ch_21 < 2147483648 := by omega
            have hn_25 := kneq (a := ch_21) (b := 38) bd_26 kc_31_38 c_24
            refine lv_iconst (v := 1) hx hb dX4_readTruth_65 kc_i_1 ?_
            have hP9 := hP
            have hD9 := hD
            have hK9 := hK
            rw [hQ]
            exact W.zret (v := 1) hx hb hr rfl (fun t ht hW => ⟨⟨1, (xs1, xwr, Pn_20, true, xl), rfl, ⟨rfl, kPR_t (a := kTruD bt kt g7 n7 (e1 + 1)) rfl (kTruD_good hz7 (e1 + 1)) (by omega) (by rw [← ivk_11_3, show 120 - i = (119 - i) + 1 by omega, kLoop_e (by rw [← hw_23_0]; omega), ← hw_23_1]) ivk_11_4 ivk_11_5, by omega⟩,  by rw [ht]; exact hP9, va_K.moved hW.alike hK9, hD9⟩, hS.F ht⟩) hS.2.2 dX4_readTruth_66
          · have bd_28 : ch_21 < 2147483648 := by omega
            have hn_27 := keq (a := ch_21) (b := 38) bd_28 kc_31_38 c_24
            refine lv_aload_n hx hb dX4_readTruth_28 rfl (lv_at hl 1 rfl) ?_
            refine lv_dup hx hb dX4_readTruth_29 rfl ?_
            refine va_get (D := (dC, dI)) (ci := 4) (v := .int (nI (Pn_20))) (C := RX4) (T := TX4) (N := 8) hx hb hts (fun _ h => List.mem_cons_of_mem _ (List.mem_append_right _ (List.mem_append_right _ (List.mem_append_right _ (List.mem_append_left _ h))))) hown hK hP 0 rfl rfl 5 kc_l_5_8 (hts (.fieldLink RX4 25 "NotEnded$Reader" "place" "I") (List.mem_cons_of_mem _ (List.mem_append_left _ (List.mem_of_getElem? (i := 11) rfl)))) (fun _ h9 => h9) rfl dX4_readTruth_30 ?_
            refine lv_iconst (v := 1) hx hb dX4_readTruth_33 kc_i_1 ?_
            refine lv_iadd hx hb dX4_readTruth_34 ?_
            refine lv_topi (fun y_29 ey_29 => ?_)
            obtain rfl : y_29 = nI (Pn_20 + 1) := ey_29.trans (nI_add (Pn_20) (1))
            refine va_put (D := (dC, dI)) (ci := 4) (v := .int (nI (Pn_20 + 1))) (ty := tyX4 5) (C := RX4) (T := TX4) (N := 8) hx hb hts (fun _ h => List.mem_cons_of_mem _ (List.mem_append_right _ (List.mem_append_right _ (List.mem_append_right _ (List.mem_append_left _ h))))) tyX4 tyX4_ok nmX4 hown hK hP hD hS 0 rfl rfl 5 kc_l_5_8 (hts (.fieldLink RX4 25 "NotEnded$Reader" "place" "I") (List.mem_cons_of_mem _ (List.mem_append_left _ (List.mem_of_getElem? (i := 11) rfl)))) (fun _ h9 => h9) rfl (tyX4_ok 5 kc_l_5_8) rfl rfl (Nat.le_of_ble_eq_true rfl) dX4_readTruth_35 (fun H locs hP hD hS => ?_)
            have hPD : kPD dC dI A [(jR, .inr (4, [.ref jT, .ref r1, .ref r2, .int (nI (xwr)), .int (nI (fi)), .int (nI (Pn_20 + 1)), .ref q6, .ref q7])), (r1, .inl (c1, 120, .inl xs1)), (r2, .inl (c2, 124, .inl s2)), (jT, .inr (8, [.ref t0, .int (nI (kt))])), (t0, .inl (cC, 120, .inl gT))] H := ⟨hP, hD⟩
            have hP := hPD.1
            have hD := hPD.2
            refine lv_aload_n hx hb dX4_readTruth_38 rfl (lv_at hl 1 rfl) ?_
            refine lv_iload_n hx hb dX4_readTruth_39 rfl (lv_at hl 2 rfl) ?_
            refine lv_iconst (v := 0) hx hb dX4_readTruth_40 kc_i_0 ?_
            have bd_30 : (Pn_20 + 1) ≤ kt := by omega
            have bd_31 : xwr ≤ (Pn_20 + 1) := by omega
            have hCu := kCut (wc := [(jR, .inr (4, [.ref jT, .ref r1, .ref r2, .int (nI (xwr)), .int (nI (fi)), .int (nI (Pn_20 + 1)), .ref q6, .ref q7])), (r1, .inl (c1, 120, .inl xs1)), (r2, .inl (c2, 124, .inl s2)), (jT, .inr (8, [.ref t0, .int (nI (kt))])), (t0, .inl (cC, 120, .inl gT))]) hP hD hS hA [0, 1, 2, 3, 4] rfl kc_nd_311 rfl
            have hPc := hCu.1
            have hDc := hCu.2.1
            have hFc := hCu.2.2
            have hKc := hK.sb (tys2 := [(c1, .int), (c2, .int), (cC, .char)]) [0, 1, 2] rfl
            refine va_calli (va_runV (As := [.int (nI (dd)), .int 0]) (rest := []) ⟨hx, hb, hml, hown, hts⟩ (s_unit4x_g_0 l dC dI jT t0 cC gT kt hkt hgT bt hbt hb8 jR r1 r2 c1 c2 xs1 s2 xwr fi q6 q7 bd_17 hfi (Pn_20 + 1) bd_30 bd_31 b6 n6 g6 hn6 b7 n7 g7 hn7 gn6 hz6 gn7 hz7 e1 dd bd_1 ih H.size) (cwV 2 hts (kG (List.forall_mem_cons.mpr ⟨(List.mem_cons_of_mem _ (List.mem_append_left _ (List.mem_of_getElem? (i := 38) rfl))), (List.forall_mem_cons.mpr ⟨(List.mem_cons_of_mem _ (List.mem_append_left _ (List.mem_of_getElem? (i := 37) rfl))), (List.forall_mem_cons.mpr ⟨(List.mem_cons_of_mem _ (List.mem_append_left _ (List.mem_of_getElem? (i := 36) rfl))), (List.forall_mem_cons.mpr ⟨(List.mem_cons_of_mem _ (List.mem_append_left _ (List.mem_of_getElem? (i := 0) rfl))), (fun _ h => absurd h List.not_mem_nil)⟩)⟩)⟩)⟩) (kGV _ _ _ _) (kFam (List.mem_cons_of_mem _ (List.mem_append_left _ (List.mem_of_getElem? (i := 35) rfl)))) gw_s_unit4x_g_0) rfl rfl rfl ⟨rfl, hd_X4_readUnit⟩ ⟨(show (9 + 6 * (e1 + 1)) + 1 ≤ (10 + 6 * (e1 + 1)) from by omega), (show 8 + (4 + 11) + 60 * (9 + 6 * (e1 + 1)) ≤ 60 * (10 + 6 * (e1 + 1)) from by omega)⟩) (kW_V kS2_blind (kS2_give hX hS hFc) (va_recv hKc hPc (ci := 4) (q0 := 0) rfl rfl) hPc hKc hDc) rfl rfl hl.1 rfl (lv_room (Nat.le_of_ble_eq_true rfl)) dX4_readTruth_41 ⟨(Nat.le_of_ble_eq_true rfl), (Nat.le_of_ble_eq_true rfl)⟩) hS (fun q _ h => hFc q h) hFc (fun r_32 => kU5 (fun S1_33 Wr_34 Pn_35 xo_36 xl_37 t H_38 locs ht hvm hw hB hz1 hk1 hS => ?_))
            try dsimp only at hw
            have hPD : kPD dC dI A [(jR, .inr (4, [.ref jT, .ref r1, .ref r2, .int (nI (Wr_34)), .int (nI (fi)), .int (nI (Pn_35)), .ref q6, .ref q7])), (r1, .inl (c1, 120, .inl S1_33)), (r2, .inl (c2, 124, .inl s2)), (jT, .inr (8, [.ref t0, .int (nI (kt))])), (t0, .inl (cC, 120, .inl gT))] H_38 := kJoinX hP hD [0, 1, 2, 3, 4] rfl hk1 hFc hB.1 ht hB.2.2 rfl [some 0, some 1, some 2, some 3, some 4] rfl rfl
            have hP := hPD.1
            have hD := hPD.2
            have hw_39 := hw
            refine lv_if_eq (tgt := 57) hx hb dX4_readTruth_44 kc_t_44_13 (fun c_40 => ?_) (fun c_40 => ?_)
            · obtain rfl : xo_36 = false := kBo_f (kZr9 hw_39.1 c_40)
              have hw_39_k := hw_39.2.1.2.1
              refine lv_iconst (v := 0) hx hb dX4_readTruth_57 kc_i_0 ?_
              have hP9 := hP
              have hD9 := hD
              have hK9 := hK
              rw [hQ]
              exact W.zret (v := 0) hx hb hr rfl (fun t ht hW => ⟨⟨0, (S1_33, Wr_34, Pn_35, false, ([])), rfl, ⟨rfl, kPR_f (by rw [← ivk_11_3, show 120 - i = (119 - i) + 1 by omega]; exact kLoop_f (by rw [← hw_23_0]; omega) (by rw [← hw_23_1]; exact hw_39.2.1.1)) (by omega), by omega⟩,  by rw [ht]; exact hP9, va_K.moved hW.alike hK9, hD9⟩, hS.F ht⟩) hS.2.2 dX4_readTruth_58
            · obtain rfl : xo_36 = true := kBo_t (kNz9 hw_39.1 c_40)
              obtain ⟨hw_39_W, hw_39_S, hw_39_l, hw_39_p⟩ := hw_39.2.1.2.2 rfl
              have hw_39_k := hw_39.2.1.2.1
              refine lv_aload_n hx hb dX4_readTruth_47 rfl (lv_at hl 1 rfl) ?_
              refine lv_sipush (v := 20038) hx hb dX4_readTruth_48 kc_s_20038 ?_
              have bd_41 : Wr_34 ≤ 120 := by omega
              have bd_42 : Pn_35 ≤ kt := by omega
              have bd_43 : Wr_34 < 120 := by omega
              have hCu := kCut (wc := [(jR, .inr (4, [.ref jT, .ref r1, .ref r2, .int (nI (Wr_34)), .int (nI (fi)), .int (nI (Pn_35)), .ref q6, .ref q7])), (r1, .inl (c1, 120, .inl S1_33)), (r2, .inl (c2, 124, .inl s2)), (jT, .inr (8, [.ref t0, .int (nI (kt))])), (t0, .inl (cC, 120, .inl gT))]) hP hD hS hA [0, 1, 2, 3, 4] rfl kc_nd_311 rfl
              have hPc := hCu.1
              have hDc := hCu.2.1
              have hFc := hCu.2.2
              have hKc := hK.sb (tys2 := [(c1, .int), (c2, .int), (cC, .char)]) [0, 1, 2] rfl
              refine va_calli (va_runV (As := [.int 20038]) (rest := []) ⟨hx, hb, hml, hown, hts⟩ (s_write4x l dC dI jT t0 cC gT kt hkt hgT bt hbt hb8 jR r1 r2 c1 c2 S1_33 s2 Wr_34 fi q6 q7 bd_41 hfi Pn_35 bd_42 20038 bd_43 H_38.size) (cwV 1 hts (kG (List.forall_mem_cons.mpr ⟨(List.mem_cons_of_mem _ (List.mem_append_left _ (List.mem_of_getElem? (i := 14) rfl))), (List.forall_mem_cons.mpr ⟨(List.mem_cons_of_mem _ (List.mem_append_left _ (List.mem_of_getElem? (i := 13) rfl))), (List.forall_mem_cons.mpr ⟨(List.mem_cons_of_mem _ (List.mem_append_left _ (List.mem_of_getElem? (i := 12) rfl))), (List.forall_mem_cons.mpr ⟨(List.mem_cons_of_mem _ (List.mem_append_left _ (List.mem_of_getElem? (i := 0) rfl))), (fun _ h => absurd h List.not_mem_nil)⟩)⟩)⟩)⟩) (kGV _ _ _ _) (fun _ h => List.mem_cons_of_mem _ (List.mem_append_right _ (List.mem_append_right _ (List.mem_append_right _ (List.mem_append_right _ (List.mem_append_right _ (List.mem_append_left _ h))))))) gw_s_write4x) rfl rfl rfl ⟨rfl, hd_X4_write⟩ ⟨(show 1 + 1 ≤ (10 + 6 * (e1 + 1)) from by omega), (show 8 + (2 + 11) + 60 * 1 ≤ 60 * (10 + 6 * (e1 + 1)) from by omega)⟩) (kW_V kT_blind kT_give (va_recv hKc hPc (ci := 4) (q0 := 0) rfl rfl) hPc hKc hDc) rfl rfl hl.1 rfl (lv_room (Nat.le_of_ble_eq_true rfl)) dX4_readTruth_51 ⟨(Nat.le_of_ble_eq_true rfl), (Nat.le_of_ble_eq_true rfl)⟩) hS (fun q _ h => hFc q h) hFc (fun r_44 => kU2 (fun S1_45 Wr_46 t H_47 locs ht hvm hw hB hz1 hk1 hS => ?_))
              try dsimp only at hw
              have hPD : kPD dC dI A [(jR, .inr (4, [.ref jT, .ref r1, .ref r2, .int (nI (Wr_46)), .int (nI (fi)), .int (nI (Pn_35)), .ref q6, .ref q7])), (r1, .inl (c1, 120, .inl S1_45)), (r2, .inl (c2, 124, .inl s2)), (jT, .inr (8, [.ref t0, .int (nI (kt))])), (t0, .inl (cC, 120, .inl gT))] H_47 := kJoinX hP hD [0, 1, 2, 3, 4] rfl hk1 hFc hB.1 ht hB.2.2 rfl [some 0, some 1, some 2, some 3, some 4] rfl rfl
              have hP := hPD.1
              have hD := hPD.2
              obtain ⟨rfl, hw_48⟩ := hw
              refine lv_if_ne (tgt := 59) hx hb dX4_readTruth_54 kc_t_54_5 (fun c_49 => ?_) (fun c_49 => absurd c_49 (by decide))
              refine lv_iinc (v := nI (i + 1)) hx hb dX4_readTruth_59 hl (k := 0) rfl (kInc _ 1) kc_l_3_4 (kTo [(3, .int (nI (i + 1))), (0, .ref jR), (1, .int (nI (dd))), (2, .int 0)]) (fun ls hl => ?_)
              refine lv_goto (tgt := 13) hx hb dX4_readTruth_62 kc_t_62_m49 ?_
              exact ih_k_11 (i + 1) S1_45 Pn_35 Wr_46 (xl ++ xl_37 ++ [nI (20000 + 38)]) (by omega) (by omega) (by omega) (by have e9 := kLoop_t (b := bt) (n := kt) (c1 := 38) (c2 := 38) (a := kUnitD bt kt g7 n7 (e1 + 1)) (f := 120 - (i + 1)) (p := xpn) (l := xl) (by rw [← hw_23_0]; omega) (by rw [← hw_23_1]; exact hw_39.2.1.1); rw [← hw_23_0] at e9; rw [show ch_21 = 38 by omega] at e9; rw [← e9, show (120 - (i + 1)) + 1 = 120 - i by omega]; exact ivk_11_3) (by simp only [List.length_append, List.length_cons, List.length_nil]; omega) (kWrt3 ivk_11_5 ivk_11_4 hw_39_S hw_39_W hw_48.2) (by simp only [List.length_append, List.length_cons, List.length_nil]; omega) (by omega) _ _ hP hD hS ls (lv_sub hl [0, 1, 2, 3] rfl) (by omega)
    exact lp_k_11 (120 - 0 + 1) 0 S1_3 Pn_5 Wr_4 xl_7 (by omega) (by omega) (by omega) (kMany_t hw_9.2.1.1).symm hw_9_W hw_9_S hw_9_l hw_9_p _ _ hP hD hS ls (lv_sub hl [0, 1, 2, 3] rfl) (by omega)
  · obtain rfl : xo_6 = false := kBo_f (kZr9 hw_9.1 c_10)
    have hw_9_k := hw_9.2.1.2.1
    refine lv_iconst (v := 0) hx hb dX4_readTruth_9 kc_i_0 ?_
    have hP9 := hP
    have hD9 := hD
    have hK9 := hK
    rw [hQ]
    exact W.zret (v := 0) hx hb hr rfl (fun t ht hW => ⟨⟨0, (S1_3, Wr_4, Pn_5, false, ([])), rfl, ⟨rfl, kPR_f (kMany_f hw_9.2.1.1) (by omega), by omega⟩,  by rw [ht]; exact hP9, va_K.moved hW.alike hK9, hD9⟩, hS.F ht⟩) hS.2.2 dX4_readTruth_10

def w_s_truth4x_g_1 : List Cond := .code yX4_readTruth cX4_readTruth 4 (some .boolean) :: wf_rq
theorem gw_s_truth4x_g_1 : (w_s_truth4x_g_1).all goodWord = true := kFamG rfl gf_rq
set_option maxHeartbeats 4000000 in
set_option maxRecDepth 100000 in
theorem s_truth4x_g_1 (l : Launch) (dC : Nat → ClassId) (dI : Nat → Nat → Nat) (jT : Nat) (t0 : Nat) (cC : ClassId) (gT : Nat → Int32) (kt : Nat) (hkt : kt ≤ 120) (hgT : ∀ j : Nat, narrow .char (.int (gT j)) = .int (gT j)) (bt : Nat → Nat) (hbt : ∀ j : Nat, gT j = nI (bt j)) (hb8 : ∀ j : Nat, bt j < 256) (jR : Nat) (r1 : Nat) (r2 : Nat) (c1 : ClassId) (c2 : ClassId) (s1 : Nat → Int32) (s2 : Nat → Int32) (wr : Nat) (fi : Nat) (q6 : Nat) (q7 : Nat) (hwr : wr ≤ 120) (hfi : fi ≤ 124) (pn : Nat) (hpn : pn ≤ kt) (hwp : wr ≤ pn) (b6 : Nat) (n6 : Nat) (g6 : Nat → Int32) (hn6 : n6 ≤ 8) (b7 : Nat) (n7 : Nat) (g7 : Nat → Int32) (hn7 : n7 ≤ 8) (gn6 : ∀ k : Nat, ∃ v : Nat, v < 128 ∧ g6 k = nI v) (hz6 : kIx g6 n6 (nI 0) = n6) (gn7 : ∀ k : Nat, ∃ v : Nat, v < 128 ∧ g7 k = nI v) (hz7 : kIx g7 n7 (nI 0) = n7) (e1 : Nat) (dd : Nat) (hdd : dd + e1 = 5) (ih : kIHq e1) (sz : Nat) : Met l yX4_readTruth w_s_truth4x_g_1 ({ frames := (10 + 6 * (e1 + 1)), cells := 0, slots := 0, locals := 60 * (10 + 6 * (e1 + 1)) }) (kW dC dI [.ref jR, .int (nI (dd)), .int 1] [(jR, .inr (4, [.ref jT, .ref r1, .ref r2, .int (nI (wr)), .int (nI (fi)), .int (nI (pn)), .ref q6, .ref q7])), (r1, .inl (c1, 120, .inl s1)), (r2, .inl (c2, 124, .inl s2)), (jT, .inr (8, [.ref t0, .int (nI (kt))])), (t0, .inl (cC, 120, .inl gT))] [(c1, .int), (c2, .int), (cC, .char)] (kS2 q6 b6 n6 g6 q7 b7 n7 g7 (va_A [(jR, .inr (4, [.ref jT, .ref r1, .ref r2, .int (nI (wr)), .int (nI (fi)), .int (nI (pn)), .ref q6, .ref q7])), (r1, .inl (c1, 120, .inl s1)), (r2, .inl (c2, 124, .inl s2)), (jT, .inr (8, [.ref t0, .int (nI (kt))])), (t0, .inl (cC, 120, .inl gT))] sz)) sz) (va_Qi (fun (r : Int32) (u : (Nat → Int32) × Nat × Nat × Bool × (List Int32)) => match u with | (S1, Wr, Pn, xo, xl) => (r = kBo xo ∧ kPR (kTruZ bt kt g7 n7 (e1 + 1) pn) pn kt wr s1 xo Pn xl Wr S1 ∧ Wr ≤ 120)) (fun (u : (Nat → Int32) × Nat × Nat × Bool × (List Int32)) => match u with | (S1, Wr, Pn, xo, xl) => fun t : State => kB dC dI [(jR, .inr (4, [.ref jT, .ref r1, .ref r2, .int (nI (Wr)), .int (nI (fi)), .int (nI (Pn)), .ref q6, .ref q7])), (r1, .inl (c1, 120, .inl S1)), (r2, .inl (c2, 124, .inl s2)), (jT, .inr (8, [.ref t0, .int (nI (kt))])), (t0, .inl (cC, 120, .inl gT))] [(c1, .int), (c2, .int), (cC, .char)] (va_A [(jR, .inr (4, [.ref jT, .ref r1, .ref r2, .int (nI (wr)), .int (nI (fi)), .int (nI (pn)), .ref q6, .ref q7])), (r1, .inl (c1, 120, .inl s1)), (r2, .inl (c2, 124, .inl s2)), (jT, .inr (8, [.ref t0, .int (nI (kt))])), (t0, .inl (cC, 120, .inl gT))] sz) t) (va_A [(jR, .inr (4, [.ref jT, .ref r1, .ref r2, .int (nI (wr)), .int (nI (fi)), .int (nI (pn)), .ref q6, .ref q7])), (r1, .inl (c1, 120, .inl s1)), (r2, .inl (c2, 124, .inl s2)), (jT, .inr (8, [.ref t0, .int (nI (kt))])), (t0, .inl (cC, 120, .inl gT))] sz)) 0 0 (va_A [(jR, .inr (4, [.ref jT, .ref r1, .ref r2, .int (nI (wr)), .int (nI (fi)), .int (nI (pn)), .ref q6, .ref q7])), (r1, .inl (c1, 120, .inl s1)), (r2, .inl (c2, 124, .inl s2)), (jT, .inr (8, [.ref t0, .int (nI (kt))])), (t0, .inl (cC, 120, .inl gT))] sz) := by
  refine Met.ofW (cc := cX4_readTruth) (maxL := 4) (ret := (some .boolean)) (by decide) rfl ?_
  intro p e s m args below meth c s₁ B hml hv
  obtain ⟨rfl, hsz, hP, hK, hD0, hX⟩ := hv
  have hx := B.exec
  have hb := B.bytes
  have hr := B.returns
  have hts := atoms_spec (ws := w_s_truth4x_g_1) B.pre
  have hown : s.vm.findClass RX4 = some m.cls := findClass_of_methodNamed B.named
  have hlocks := B.notSynchronized
  subst hsz
  have hD := hD0.self (sz := s.heap.size)
  generalize hAe : va_A [(jR, .inr (4, [.ref jT, .ref r1, .ref r2, .int (nI (wr)), .int (nI (fi)), .int (nI (pn)), .ref q6, .ref q7])), (r1, .inl (c1, 120, .inl s1)), (r2, .inl (c2, 124, .inl s2)), (jT, .inr (8, [.ref t0, .int (nI (kt))])), (t0, .inl (cC, 120, .inl gT))] s.heap.size = A at hD hX ⊢
  have hA : ∀ q : Nat, s.heap.size ≤ q → A q := fun q h => by rw [← hAe]; exact Or.inr h
  have hS : va_S A s.heap s.heap [] := va_S.rf
  have hP : va_P (dC, dI) vwCl [(jR, .inr (4, [.ref jT, .ref r1, .ref r2, .int (nI (wr)), .int (nI (fi)), .int (nI (pn)), .ref q6, .ref q7])), (r1, .inl (c1, 120, .inl s1)), (r2, .inl (c2, 124, .inl s2)), (jT, .inr (8, [.ref t0, .int (nI (kt))])), (t0, .inl (cC, 120, .inl gT))] s.heap := hP
  have hl := lv_entry ([.ref jR, .int (nI (dd)), .int 1]) (n := 4) (Nat.le_of_ble_eq_true rfl)
  rw [lg_entry_eq]
  generalize (lg_sl ([.ref jR, .int (nI (dd)), .int 1]) ++ List.replicate (4 - (lg_sl ([.ref jR, .int (nI (dd)), .int 1])).length) Slot.unset).toArray = ls at hl ⊢
  have hl : lv_has ls 4 [(0, .ref jR), (1, .int (nI (dd))), (2, .int 1)] := hl
  refine kQ (fun Q hQ => ?_)
  refine lv_aload_n hx hb dX4_readTruth_0 rfl (lv_at hl 0 rfl) ?_
  refine lv_iload_n hx hb dX4_readTruth_1 rfl (lv_at hl 1 rfl) ?_
  refine lv_iload_n hx hb dX4_readTruth_2 rfl (lv_at hl 2 rfl) ?_
  have bd_1 : dd + e1 = 5 := by omega
  have hCu := kCut (wc := [(jR, .inr (4, [.ref jT, .ref r1, .ref r2, .int (nI (wr)), .int (nI (fi)), .int (nI (pn)), .ref q6, .ref q7])), (r1, .inl (c1, 120, .inl s1)), (r2, .inl (c2, 124, .inl s2)), (jT, .inr (8, [.ref t0, .int (nI (kt))])), (t0, .inl (cC, 120, .inl gT))]) hP hD hS hA [0, 1, 2, 3, 4] rfl kc_nd_311 rfl
  have hPc := hCu.1
  have hDc := hCu.2.1
  have hFc := hCu.2.2
  have hKc := hK.sb (tys2 := [(c1, .int), (c2, .int), (cC, .char)]) [0, 1, 2] rfl
  refine va_calli (va_runV (As := [.int (nI (dd)), .int 1]) (rest := []) ⟨hx, hb, hml, hown, hts⟩ (s_unit4x_g_1 l dC dI jT t0 cC gT kt hkt hgT bt hbt hb8 jR r1 r2 c1 c2 s1 s2 wr fi q6 q7 hwr hfi pn hpn hwp b6 n6 g6 hn6 b7 n7 g7 hn7 gn6 hz6 gn7 hz7 e1 dd bd_1 ih s.heap.size) (cwV 2 hts (kG (List.forall_mem_cons.mpr ⟨(List.mem_cons_of_mem _ (List.mem_append_left _ (List.mem_of_getElem? (i := 38) rfl))), (List.forall_mem_cons.mpr ⟨(List.mem_cons_of_mem _ (List.mem_append_left _ (List.mem_of_getElem? (i := 37) rfl))), (List.forall_mem_cons.mpr ⟨(List.mem_cons_of_mem _ (List.mem_append_left _ (List.mem_of_getElem? (i := 36) rfl))), (List.forall_mem_cons.mpr ⟨(List.mem_cons_of_mem _ (List.mem_append_left _ (List.mem_of_getElem? (i := 0) rfl))), (fun _ h => absurd h List.not_mem_nil)⟩)⟩)⟩)⟩) (kGV _ _ _ _) (kFam (List.mem_cons_of_mem _ (List.mem_append_left _ (List.mem_of_getElem? (i := 35) rfl)))) gw_s_unit4x_g_1) rfl rfl rfl ⟨rfl, hd_X4_readUnit⟩ ⟨(show (9 + 6 * (e1 + 1)) + 1 ≤ (10 + 6 * (e1 + 1)) from by omega), (show 8 + (4 + 11) + 60 * (9 + 6 * (e1 + 1)) ≤ 60 * (10 + 6 * (e1 + 1)) from by omega)⟩) (kW_V kS2_blind (kS2_give hX hS hFc) (va_recv hKc hPc (ci := 4) (q0 := 0) rfl rfl) hPc hKc hDc) rfl rfl hl.1 rfl (lv_room (Nat.le_of_ble_eq_true rfl)) dX4_readTruth_3 ⟨(Nat.le_of_ble_eq_true rfl), (Nat.le_of_ble_eq_true rfl)⟩) hS (fun q _ h => hFc q h) hFc (fun r_2 => kU5 (fun S1_3 Wr_4 Pn_5 xo_6 xl_7 t H_8 locs ht hvm hw hB hz1 hk1 hS => ?_))
  try dsimp only at hw
  have hPD : kPD dC dI A [(jR, .inr (4, [.ref jT, .ref r1, .ref r2, .int (nI (Wr_4)), .int (nI (fi)), .int (nI (Pn_5)), .ref q6, .ref q7])), (r1, .inl (c1, 120, .inl S1_3)), (r2, .inl (c2, 124, .inl s2)), (jT, .inr (8, [.ref t0, .int (nI (kt))])), (t0, .inl (cC, 120, .inl gT))] H_8 := kJoinX hP hD [0, 1, 2, 3, 4] rfl hk1 hFc hB.1 ht hB.2.2 rfl [some 0, some 1, some 2, some 3, some 4] rfl rfl
  have hP := hPD.1
  have hD := hPD.2
  have hw_9 := hw
  refine lv_if_ne (tgt := 11) hx hb dX4_readTruth_6 kc_t_6_5 (fun c_10 => ?_) (fun c_10 => ?_)
  · obtain rfl : xo_6 = true := kBo_t (kNz9 hw_9.1 c_10)
    obtain ⟨hw_9_W, hw_9_S, hw_9_l, hw_9_p⟩ := hw_9.2.1.2.2 rfl
    have hw_9_k := hw_9.2.1.2.1
    refine lv_iconst (v := 0) hx hb dX4_readTruth_11 kc_i_0 ?_
    refine lv_istore_n hx hb dX4_readTruth_12 rfl hl kc_l_3_4 (kTo [(3, .int 0), (0, .ref jR), (1, .int (nI (dd))), (2, .int 1)]) (fun ls hl => ?_)
    have lp_k_11 : ∀ (n9 : Nat) (i : Nat) (xs1 : Nat → Int32) (xpn : Nat) (xwr : Nat) (xl : List Int32) (ivk_11_0 : i ≤ 120) (ivk_11_1 : xwr ≤ 120) (ivk_11_2 : xpn ≤ kt) (ivk_11_3 : kLoop bt kt 38 38 (kUnitD bt kt g7 n7 (e1 + 1)) (120 - i) xpn xl = kTruZ bt kt g7 n7 (e1 + 1) pn) (ivk_11_4 : xwr = wr + xl.length) (ivk_11_5 : xs1 = kWrt s1 wr xl) (ivk_11_6 : pn + xl.length ≤ xpn) (ivk_11_7 : pn < xpn) (H : Heap) (locs : List Loc) (_ : va_P (dC, dI) vwCl [(jR, .inr (4, [.ref jT, .ref r1, .ref r2, .int (nI (xwr)), .int (nI (fi)), .int (nI (xpn)), .ref q6, .ref q7])), (r1, .inl (c1, 120, .inl xs1)), (r2, .inl (c2, 124, .inl s2)), (jT, .inr (8, [.ref t0, .int (nI (kt))])), (t0, .inl (cC, 120, .inl gT))] H) (_ : va_D A [(jR, .inr (4, [.ref jT, .ref r1, .ref r2, .int (nI (xwr)), .int (nI (fi)), .int (nI (xpn)), .ref q6, .ref q7])), (r1, .inl (c1, 120, .inl xs1)), (r2, .inl (c2, 124, .inl s2)), (jT, .inr (8, [.ref t0, .int (nI (kt))])), (t0, .inl (cC, 120, .inl gT))]) (_ : va_S A s.heap H locs) (ls : Array Slot) (_ : lv_has ls 4 [(3, .int (nI (i))), (0, .ref jR), (1, .int (nI (dd))), (2, .int 1)]) (_ : 120 - i < n9), W p l e (headSpec w_s_truth4x_g_1 ({ frames := (10 + 6 * (e1 + 1)), cells := 0, slots := 0, locals := 60 * (10 + 6 * (e1 + 1)) })).room s m (#[.ref jR, .int (nI (dd)), .int 1] : Array Value) below meth c H locs 0 0 Q (F0 m 13 ls []) := by
      intro n9
      induction n9 with
      | zero => intro i xs1 xpn xwr xl ivk_11_0 ivk_11_1 ivk_11_2 ivk_11_3 ivk_11_4 ivk_11_5 ivk_11_6 ivk_11_7 H locs hP hD hS ls hl hm9; exact absurd hm9 (Nat.not_lt_zero _)
      | succ n9 ih_k_11 =>
        intro i xs1 xpn xwr xl ivk_11_0 ivk_11_1 ivk_11_2 ivk_11_3 ivk_11_4 ivk_11_5 ivk_11_6 ivk_11_7 H locs hP hD hS ls hl hm9
        refine lv_iload_n hx hb dX4_readTruth_13 rfl (lv_at hl 0 rfl) ?_
        refine lv_bipush (v := 120) hx hb dX4_readTruth_14 kc_b_120 ?_
        refine lv_icmp_ge (tgt := 65) hx hb dX4_readTruth_16 kc_t_16_49 (fun c_12 => ?_) (fun c_12 => ?_)
        · have bd_14 : i < 2147483648 := by omega
          have hn_13 := kle (a := 120) (b := i) kc_31_120 bd_14 c_12
          refine lv_iconst (v := 1) hx hb dX4_readTruth_65 kc_i_1 ?_
          have hP9 := hP
          have hD9 := hD
          have hK9 := hK
          rw [hQ]
          exact W.zret (v := 1) hx hb hr rfl (fun t ht hW => ⟨⟨1, (xs1, xwr, xpn, true, xl), rfl, ⟨rfl, kPR_t (a := kTruZ bt kt g7 n7 (e1 + 1)) rfl (kTruZ_good hz7 (e1 + 1)) (by omega) (by rw [← ivk_11_3, show 120 - i = 0 by omega]; rfl) ivk_11_4 ivk_11_5, by omega⟩,  by rw [ht]; exact hP9, va_K.moved hW.alike hK9, hD9⟩, hS.F ht⟩) hS.2.2 dX4_readTruth_66
        · have bd_16 : i < 2147483648 := by omega
          have hn_15 := knle (a := 120) (b := i) kc_31_120 bd_16 c_12
          refine lv_aload_n hx hb dX4_readTruth_19 rfl (lv_at hl 1 rfl) ?_
          have bd_17 : xwr ≤ 120 := by omega
          have bd_18 : xpn ≤ kt := by omega
          have hCu := kCut (wc := [(jR, .inr (4, [.ref jT, .ref r1, .ref r2, .int (nI (xwr)), .int (nI (fi)), .int (nI (xpn)), .ref q6, .ref q7])), (r1, .inl (c1, 120, .inl xs1)), (r2, .inl (c2, 124, .inl s2)), (jT, .inr (8, [.ref t0, .int (nI (kt))])), (t0, .inl (cC, 120, .inl gT))]) hP hD hS hA [0, 1, 2, 3, 4] rfl kc_nd_311 rfl
          have hPc := hCu.1
          have hDc := hCu.2.1
          have hFc := hCu.2.2
          have hKc := hK.sb (tys2 := [(c1, .int), (c2, .int), (cC, .char)]) [0, 1, 2] rfl
          refine va_calli (va_runV (As := []) (rest := []) ⟨hx, hb, hml, hown, hts⟩ (s_look4x l dC dI jT t0 cC gT kt hkt hgT bt hbt hb8 jR r1 r2 c1 c2 xs1 s2 xwr fi q6 q7 bd_17 hfi xpn bd_18 H.size) (cwV 0 hts (kG (List.forall_mem_cons.mpr ⟨(List.mem_cons_of_mem _ (List.mem_append_left _ (List.mem_of_getElem? (i := 3) rfl))), (List.forall_mem_cons.mpr ⟨(List.mem_cons_of_mem _ (List.mem_append_left _ (List.mem_of_getElem? (i := 2) rfl))), (List.forall_mem_cons.mpr ⟨(List.mem_cons_of_mem _ (List.mem_append_left _ (List.mem_of_getElem? (i := 1) rfl))), (List.forall_mem_cons.mpr ⟨(List.mem_cons_of_mem _ (List.mem_append_left _ (List.mem_of_getElem? (i := 0) rfl))), (fun _ h => absurd h List.not_mem_nil)⟩)⟩)⟩)⟩) (kGV _ _ _ _) (fun _ h => List.mem_cons_of_mem _ (List.mem_append_right _ (List.mem_append_left _ h))) gw_s_look4x) rfl rfl rfl ⟨rfl, hd_X4_look⟩ ⟨(show 2 + 1 ≤ (10 + 6 * (e1 + 1)) from by omega), (show 8 + (2 + 11) + 60 * 2 ≤ 60 * (10 + 6 * (e1 + 1)) from by omega)⟩) (kW_V kT_blind kT_give (va_recv hKc hPc (ci := 4) (q0 := 0) rfl rfl) hPc hKc hDc) rfl rfl hl.1 rfl (lv_room (Nat.le_of_ble_eq_true rfl)) dX4_readTruth_20 ⟨(Nat.le_of_ble_eq_true rfl), (Nat.le_of_ble_eq_true rfl)⟩) hS (fun q _ h => hFc q h) hFc (fun r_19 => kU2 (fun Pn_20 ch_21 t H_22 locs ht hvm hw hB hz1 hk1 hS => ?_))
          try dsimp only at hw
          have hPD : kPD dC dI A [(jR, .inr (4, [.ref jT, .ref r1, .ref r2, .int (nI (xwr)), .int (nI (fi)), .int (nI (Pn_20)), .ref q6, .ref q7])), (r1, .inl (c1, 120, .inl xs1)), (r2, .inl (c2, 124, .inl s2)), (jT, .inr (8, [.ref t0, .int (nI (kt))])), (t0, .inl (cC, 120, .inl gT))] H_22 := kJoinX hP hD [0, 1, 2, 3, 4] rfl hk1 hFc hB.1 ht hB.2.2 rfl [some 0, some 1, some 2, some 3, some 4] rfl rfl
          have hP := hPD.1
          have hD := hPD.2
          obtain ⟨rfl, hw_23_0, hw_23_1, hw_23_2, hw_23_3, hw_23_4, hw_23_5, hw_23_6⟩ := hw
          refine lv_bipush (v := 38) hx hb dX4_readTruth_23 kc_b_38 ?_
          refine lv_icmp_ne (tgt := 65) hx hb dX4_readTruth_25 kc_t_25_40 (fun c_24 => ?_) (fun c_24 => ?_)
          · have bd_26 : ch_21 < 2147483648 := by omega
            have hn_25 := kneq (a := ch_21) (b := 38) bd_26 kc_31_38 c_24
            refine lv_iconst (v := 1) hx hb dX4_readTruth_65 kc_i_1 ?_
            have hP9 := hP
            have hD9 := hD
            have hK9 := hK
            rw [hQ]
            exact W.zret (v := 1) hx hb hr rfl (fun t ht hW => ⟨⟨1, (xs1, xwr, Pn_20, true, xl), rfl, ⟨rfl, kPR_t (a := kTruZ bt kt g7 n7 (e1 + 1)) rfl (kTruZ_good hz7 (e1 + 1)) (by omega) (by rw [← ivk_11_3, show 120 - i = (119 - i) + 1 by omega, kLoop_e (by rw [← hw_23_0]; omega), ← hw_23_1]) ivk_11_4 ivk_11_5, by omega⟩,  by rw [ht]; exact hP9, va_K.moved hW.alike hK9, hD9⟩, hS.F ht⟩) hS.2.2 dX4_readTruth_66
          · have bd_28 : ch_21 < 2147483648 := by omega
            have hn_27 := keq (a := ch_21) (b := 38) bd_28 kc_31_38 c_24
            refine lv_aload_n hx hb dX4_readTruth_28 rfl (lv_at hl 1 rfl) ?_
            refine lv_dup hx hb dX4_readTruth_29 rfl ?_
            refine va_get (D := (dC, dI)) (ci := 4) (v := .int (nI (Pn_20))) (C := RX4) (T := TX4) (N := 8) hx hb hts (fun _ h => List.mem_cons_of_mem _ (List.mem_append_right _ (List.mem_append_right _ (List.mem_append_right _ (List.mem_append_left _ h))))) hown hK hP 0 rfl rfl 5 kc_l_5_8 (hts (.fieldLink RX4 25 "NotEnded$Reader" "place" "I") (List.mem_cons_of_mem _ (List.mem_append_left _ (List.mem_of_getElem? (i := 11) rfl)))) (fun _ h9 => h9) rfl dX4_readTruth_30 ?_
            refine lv_iconst (v := 1) hx hb dX4_readTruth_33 kc_i_1 ?_
            refine lv_iadd hx hb dX4_readTruth_34 ?_
            refine lv_topi (fun y_29 ey_29 => ?_)
            obtain rfl : y_29 = nI (Pn_20 + 1) := ey_29.trans (nI_add (Pn_20) (1))
            refine va_put (D := (dC, dI)) (ci := 4) (v := .int (nI (Pn_20 + 1))) (ty := tyX4 5) (C := RX4) (T := TX4) (N := 8) hx hb hts (fun _ h => List.mem_cons_of_mem _ (List.mem_append_right _ (List.mem_append_right _ (List.mem_append_right _ (List.mem_append_left _ h))))) tyX4 tyX4_ok nmX4 hown hK hP hD hS 0 rfl rfl 5 kc_l_5_8 (hts (.fieldLink RX4 25 "NotEnded$Reader" "place" "I") (List.mem_cons_of_mem _ (List.mem_append_left _ (List.mem_of_getElem? (i := 11) rfl)))) (fun _ h9 => h9) rfl (tyX4_ok 5 kc_l_5_8) rfl rfl (Nat.le_of_ble_eq_true rfl) dX4_readTruth_35 (fun H locs hP hD hS => ?_)
            have hPD : kPD dC dI A [(jR, .inr (4, [.ref jT, .ref r1, .ref r2, .int (nI (xwr)), .int (nI (fi)), .int (nI (Pn_20 + 1)), .ref q6, .ref q7])), (r1, .inl (c1, 120, .inl xs1)), (r2, .inl (c2, 124, .inl s2)), (jT, .inr (8, [.ref t0, .int (nI (kt))])), (t0, .inl (cC, 120, .inl gT))] H := ⟨hP, hD⟩
            have hP := hPD.1
            have hD := hPD.2
            refine lv_aload_n hx hb dX4_readTruth_38 rfl (lv_at hl 1 rfl) ?_
            refine lv_iload_n hx hb dX4_readTruth_39 rfl (lv_at hl 2 rfl) ?_
            refine lv_iconst (v := 0) hx hb dX4_readTruth_40 kc_i_0 ?_
            have bd_30 : (Pn_20 + 1) ≤ kt := by omega
            have bd_31 : xwr ≤ (Pn_20 + 1) := by omega
            have hCu := kCut (wc := [(jR, .inr (4, [.ref jT, .ref r1, .ref r2, .int (nI (xwr)), .int (nI (fi)), .int (nI (Pn_20 + 1)), .ref q6, .ref q7])), (r1, .inl (c1, 120, .inl xs1)), (r2, .inl (c2, 124, .inl s2)), (jT, .inr (8, [.ref t0, .int (nI (kt))])), (t0, .inl (cC, 120, .inl gT))]) hP hD hS hA [0, 1, 2, 3, 4] rfl kc_nd_311 rfl
            have hPc := hCu.1
            have hDc := hCu.2.1
            have hFc := hCu.2.2
            have hKc := hK.sb (tys2 := [(c1, .int), (c2, .int), (cC, .char)]) [0, 1, 2] rfl
            refine va_calli (va_runV (As := [.int (nI (dd)), .int 0]) (rest := []) ⟨hx, hb, hml, hown, hts⟩ (s_unit4x_g_0 l dC dI jT t0 cC gT kt hkt hgT bt hbt hb8 jR r1 r2 c1 c2 xs1 s2 xwr fi q6 q7 bd_17 hfi (Pn_20 + 1) bd_30 bd_31 b6 n6 g6 hn6 b7 n7 g7 hn7 gn6 hz6 gn7 hz7 e1 dd bd_1 ih H.size) (cwV 2 hts (kG (List.forall_mem_cons.mpr ⟨(List.mem_cons_of_mem _ (List.mem_append_left _ (List.mem_of_getElem? (i := 38) rfl))), (List.forall_mem_cons.mpr ⟨(List.mem_cons_of_mem _ (List.mem_append_left _ (List.mem_of_getElem? (i := 37) rfl))), (List.forall_mem_cons.mpr ⟨(List.mem_cons_of_mem _ (List.mem_append_left _ (List.mem_of_getElem? (i := 36) rfl))), (List.forall_mem_cons.mpr ⟨(List.mem_cons_of_mem _ (List.mem_append_left _ (List.mem_of_getElem? (i := 0) rfl))), (fun _ h => absurd h List.not_mem_nil)⟩)⟩)⟩)⟩) (kGV _ _ _ _) (kFam (List.mem_cons_of_mem _ (List.mem_append_left _ (List.mem_of_getElem? (i := 35) rfl)))) gw_s_unit4x_g_0) rfl rfl rfl ⟨rfl, hd_X4_readUnit⟩ ⟨(show (9 + 6 * (e1 + 1)) + 1 ≤ (10 + 6 * (e1 + 1)) from by omega), (show 8 + (4 + 11) + 60 * (9 + 6 * (e1 + 1)) ≤ 60 * (10 + 6 * (e1 + 1)) from by omega)⟩) (kW_V kS2_blind (kS2_give hX hS hFc) (va_recv hKc hPc (ci := 4) (q0 := 0) rfl rfl) hPc hKc hDc) rfl rfl hl.1 rfl (lv_room (Nat.le_of_ble_eq_true rfl)) dX4_readTruth_41 ⟨(Nat.le_of_ble_eq_true rfl), (Nat.le_of_ble_eq_true rfl)⟩) hS (fun q _ h => hFc q h) hFc (fun r_32 => kU5 (fun S1_33 Wr_34 Pn_35 xo_36 xl_37 t H_38 locs ht hvm hw hB hz1 hk1 hS => ?_))
            try dsimp only at hw
            have hPD : kPD dC dI A [(jR, .inr (4, [.ref jT, .ref r1, .ref r2, .int (nI (Wr_34)), .int (nI (fi)), .int (nI (Pn_35)), .ref q6, .ref q7])), (r1, .inl (c1, 120, .inl S1_33)), (r2, .inl (c2, 124, .inl s2)), (jT, .inr (8, [.ref t0, .int (nI (kt))])), (t0, .inl (cC, 120, .inl gT))] H_38 := kJoinX hP hD [0, 1, 2, 3, 4] rfl hk1 hFc hB.1 ht hB.2.2 rfl [some 0, some 1, some 2, some 3, some 4] rfl rfl
            have hP := hPD.1
            have hD := hPD.2
            have hw_39 := hw
            refine lv_if_eq (tgt := 57) hx hb dX4_readTruth_44 kc_t_44_13 (fun c_40 => ?_) (fun c_40 => ?_)
            · obtain rfl : xo_36 = false := kBo_f (kZr9 hw_39.1 c_40)
              have hw_39_k := hw_39.2.1.2.1
              refine lv_iconst (v := 0) hx hb dX4_readTruth_57 kc_i_0 ?_
              have hP9 := hP
              have hD9 := hD
              have hK9 := hK
              rw [hQ]
              exact W.zret (v := 0) hx hb hr rfl (fun t ht hW => ⟨⟨0, (S1_33, Wr_34, Pn_35, false, ([])), rfl, ⟨rfl, kPR_f (by rw [← ivk_11_3, show 120 - i = (119 - i) + 1 by omega]; exact kLoop_f (by rw [← hw_23_0]; omega) (by rw [← hw_23_1]; exact hw_39.2.1.1)) (by omega), by omega⟩,  by rw [ht]; exact hP9, va_K.moved hW.alike hK9, hD9⟩, hS.F ht⟩) hS.2.2 dX4_readTruth_58
            · obtain rfl : xo_36 = true := kBo_t (kNz9 hw_39.1 c_40)
              obtain ⟨hw_39_W, hw_39_S, hw_39_l, hw_39_p⟩ := hw_39.2.1.2.2 rfl
              have hw_39_k := hw_39.2.1.2.1
              refine lv_aload_n hx hb dX4_readTruth_47 rfl (lv_at hl 1 rfl) ?_
              refine lv_sipush (v := 20038) hx hb dX4_readTruth_48 kc_s_20038 ?_
              have bd_41 : Wr_34 ≤ 120 := by omega
              have bd_42 : Pn_35 ≤ kt := by omega
              have bd_43 : Wr_34 < 120 := by omega
              have hCu := kCut (wc := [(jR, .inr (4, [.ref jT, .ref r1, .ref r2, .int (nI (Wr_34)), .int (nI (fi)), .int (nI (Pn_35)), .ref q6, .ref q7])), (r1, .inl (c1, 120, .inl S1_33)), (r2, .inl (c2, 124, .inl s2)), (jT, .inr (8, [.ref t0, .int (nI (kt))])), (t0, .inl (cC, 120, .inl gT))]) hP hD hS hA [0, 1, 2, 3, 4] rfl kc_nd_311 rfl
              have hPc := hCu.1
              have hDc := hCu.2.1
              have hFc := hCu.2.2
              have hKc := hK.sb (tys2 := [(c1, .int), (c2, .int), (cC, .char)]) [0, 1, 2] rfl
              refine va_calli (va_runV (As := [.int 20038]) (rest := []) ⟨hx, hb, hml, hown, hts⟩ (s_write4x l dC dI jT t0 cC gT kt hkt hgT bt hbt hb8 jR r1 r2 c1 c2 S1_33 s2 Wr_34 fi q6 q7 bd_41 hfi Pn_35 bd_42 20038 bd_43 H_38.size) (cwV 1 hts (kG (List.forall_mem_cons.mpr ⟨(List.mem_cons_of_mem _ (List.mem_append_left _ (List.mem_of_getElem? (i := 14) rfl))), (List.forall_mem_cons.mpr ⟨(List.mem_cons_of_mem _ (List.mem_append_left _ (List.mem_of_getElem? (i := 13) rfl))), (List.forall_mem_cons.mpr ⟨(List.mem_cons_of_mem _ (List.mem_append_left _ (List.mem_of_getElem? (i := 12) rfl))), (List.forall_mem_cons.mpr ⟨(List.mem_cons_of_mem _ (List.mem_append_left _ (List.mem_of_getElem? (i := 0) rfl))), (fun _ h => absurd h List.not_mem_nil)⟩)⟩)⟩)⟩) (kGV _ _ _ _) (fun _ h => List.mem_cons_of_mem _ (List.mem_append_right _ (List.mem_append_right _ (List.mem_append_right _ (List.mem_append_right _ (List.mem_append_right _ (List.mem_append_left _ h))))))) gw_s_write4x) rfl rfl rfl ⟨rfl, hd_X4_write⟩ ⟨(show 1 + 1 ≤ (10 + 6 * (e1 + 1)) from by omega), (show 8 + (2 + 11) + 60 * 1 ≤ 60 * (10 + 6 * (e1 + 1)) from by omega)⟩) (kW_V kT_blind kT_give (va_recv hKc hPc (ci := 4) (q0 := 0) rfl rfl) hPc hKc hDc) rfl rfl hl.1 rfl (lv_room (Nat.le_of_ble_eq_true rfl)) dX4_readTruth_51 ⟨(Nat.le_of_ble_eq_true rfl), (Nat.le_of_ble_eq_true rfl)⟩) hS (fun q _ h => hFc q h) hFc (fun r_44 => kU2 (fun S1_45 Wr_46 t H_47 locs ht hvm hw hB hz1 hk1 hS => ?_))
              try dsimp only at hw
              have hPD : kPD dC dI A [(jR, .inr (4, [.ref jT, .ref r1, .ref r2, .int (nI (Wr_46)), .int (nI (fi)), .int (nI (Pn_35)), .ref q6, .ref q7])), (r1, .inl (c1, 120, .inl S1_45)), (r2, .inl (c2, 124, .inl s2)), (jT, .inr (8, [.ref t0, .int (nI (kt))])), (t0, .inl (cC, 120, .inl gT))] H_47 := kJoinX hP hD [0, 1, 2, 3, 4] rfl hk1 hFc hB.1 ht hB.2.2 rfl [some 0, some 1, some 2, some 3, some 4] rfl rfl
              have hP := hPD.1
              have hD := hPD.2
              obtain ⟨rfl, hw_48⟩ := hw
              refine lv_if_ne (tgt := 59) hx hb dX4_readTruth_54 kc_t_54_5 (fun c_49 => ?_) (fun c_49 => absurd c_49 (by decide))
              refine lv_iinc (v := nI (i + 1)) hx hb dX4_readTruth_59 hl (k := 0) rfl (kInc _ 1) kc_l_3_4 (kTo [(3, .int (nI (i + 1))), (0, .ref jR), (1, .int (nI (dd))), (2, .int 1)]) (fun ls hl => ?_)
              refine lv_goto (tgt := 13) hx hb dX4_readTruth_62 kc_t_62_m49 ?_
              exact ih_k_11 (i + 1) S1_45 Pn_35 Wr_46 (xl ++ xl_37 ++ [nI (20000 + 38)]) (by omega) (by omega) (by omega) (by have e9 := kLoop_t (b := bt) (n := kt) (c1 := 38) (c2 := 38) (a := kUnitD bt kt g7 n7 (e1 + 1)) (f := 120 - (i + 1)) (p := xpn) (l := xl) (by rw [← hw_23_0]; omega) (by rw [← hw_23_1]; exact hw_39.2.1.1); rw [← hw_23_0] at e9; rw [show ch_21 = 38 by omega] at e9; rw [← e9, show (120 - (i + 1)) + 1 = 120 - i by omega]; exact ivk_11_3) (by simp only [List.length_append, List.length_cons, List.length_nil]; omega) (kWrt3 ivk_11_5 ivk_11_4 hw_39_S hw_39_W hw_48.2) (by simp only [List.length_append, List.length_cons, List.length_nil]; omega) (by omega) _ _ hP hD hS ls (lv_sub hl [0, 1, 2, 3] rfl) (by omega)
    exact lp_k_11 (120 - 0 + 1) 0 S1_3 Pn_5 Wr_4 xl_7 (by omega) (by omega) (by omega) (kMany_t hw_9.2.1.1).symm hw_9_W hw_9_S hw_9_l hw_9_p _ _ hP hD hS ls (lv_sub hl [0, 1, 2, 3] rfl) (by omega)
  · obtain rfl : xo_6 = false := kBo_f (kZr9 hw_9.1 c_10)
    have hw_9_k := hw_9.2.1.2.1
    refine lv_iconst (v := 0) hx hb dX4_readTruth_9 kc_i_0 ?_
    have hP9 := hP
    have hD9 := hD
    have hK9 := hK
    rw [hQ]
    exact W.zret (v := 0) hx hb hr rfl (fun t ht hW => ⟨⟨0, (S1_3, Wr_4, Pn_5, false, ([])), rfl, ⟨rfl, kPR_f (kMany_f hw_9.2.1.1) (by omega), by omega⟩,  by rw [ht]; exact hP9, va_K.moved hW.alike hK9, hD9⟩, hS.F ht⟩) hS.2.2 dX4_readTruth_10

def w_s_cond4x_g_0 : List Cond := .code yX4_readCondition cX4_readCondition 4 (some .boolean) :: wf_rq
set_option maxHeartbeats 4000000 in
set_option maxRecDepth 100000 in
theorem s_cond4x_g_0 (l : Launch) (dC : Nat → ClassId) (dI : Nat → Nat → Nat) (jT : Nat) (t0 : Nat) (cC : ClassId) (gT : Nat → Int32) (kt : Nat) (hkt : kt ≤ 120) (hgT : ∀ j : Nat, narrow .char (.int (gT j)) = .int (gT j)) (bt : Nat → Nat) (hbt : ∀ j : Nat, gT j = nI (bt j)) (hb8 : ∀ j : Nat, bt j < 256) (jR : Nat) (r1 : Nat) (r2 : Nat) (c1 : ClassId) (c2 : ClassId) (s1 : Nat → Int32) (s2 : Nat → Int32) (wr : Nat) (fi : Nat) (q6 : Nat) (q7 : Nat) (hwr : wr ≤ 120) (hfi : fi ≤ 124) (pn : Nat) (hpn : pn ≤ kt) (hwp : wr ≤ pn) (b6 : Nat) (n6 : Nat) (g6 : Nat → Int32) (hn6 : n6 ≤ 8) (b7 : Nat) (n7 : Nat) (g7 : Nat → Int32) (hn7 : n7 ≤ 8) (gn6 : ∀ k : Nat, ∃ v : Nat, v < 128 ∧ g6 k = nI v) (hz6 : kIx g6 n6 (nI 0) = n6) (gn7 : ∀ k : Nat, ∃ v : Nat, v < 128 ∧ g7 k = nI v) (hz7 : kIx g7 n7 (nI 0) = n7) (e1 : Nat) (dd : Nat) (hdd : dd + e1 = 5) (ih : kIHq e1) (sz : Nat) : Met l yX4_readCondition w_s_cond4x_g_0 ({ frames := (11 + 6 * (e1 + 1)), cells := 0, slots := 0, locals := 60 * (11 + 6 * (e1 + 1)) }) (kW dC dI [.ref jR, .int (nI (dd)), .int 0] [(jR, .inr (4, [.ref jT, .ref r1, .ref r2, .int (nI (wr)), .int (nI (fi)), .int (nI (pn)), .ref q6, .ref q7])), (r1, .inl (c1, 120, .inl s1)), (r2, .inl (c2, 124, .inl s2)), (jT, .inr (8, [.ref t0, .int (nI (kt))])), (t0, .inl (cC, 120, .inl gT))] [(c1, .int), (c2, .int), (cC, .char)] (kS2 q6 b6 n6 g6 q7 b7 n7 g7 (va_A [(jR, .inr (4, [.ref jT, .ref r1, .ref r2, .int (nI (wr)), .int (nI (fi)), .int (nI (pn)), .ref q6, .ref q7])), (r1, .inl (c1, 120, .inl s1)), (r2, .inl (c2, 124, .inl s2)), (jT, .inr (8, [.ref t0, .int (nI (kt))])), (t0, .inl (cC, 120, .inl gT))] sz)) sz) (va_Qi (fun (r : Int32) (u : (Nat → Int32) × Nat × Nat × Bool × (List Int32)) => match u with | (S1, Wr, Pn, xo, xl) => (r = kBo xo ∧ kPR (kConD bt kt g7 n7 (e1 + 1) pn) pn kt wr s1 xo Pn xl Wr S1 ∧ Wr ≤ 120)) (fun (u : (Nat → Int32) × Nat × Nat × Bool × (List Int32)) => match u with | (S1, Wr, Pn, xo, xl) => fun t : State => kB dC dI [(jR, .inr (4, [.ref jT, .ref r1, .ref r2, .int (nI (Wr)), .int (nI (fi)), .int (nI (Pn)), .ref q6, .ref q7])), (r1, .inl (c1, 120, .inl S1)), (r2, .inl (c2, 124, .inl s2)), (jT, .inr (8, [.ref t0, .int (nI (kt))])), (t0, .inl (cC, 120, .inl gT))] [(c1, .int), (c2, .int), (cC, .char)] (va_A [(jR, .inr (4, [.ref jT, .ref r1, .ref r2, .int (nI (wr)), .int (nI (fi)), .int (nI (pn)), .ref q6, .ref q7])), (r1, .inl (c1, 120, .inl s1)), (r2, .inl (c2, 124, .inl s2)), (jT, .inr (8, [.ref t0, .int (nI (kt))])), (t0, .inl (cC, 120, .inl gT))] sz) t) (va_A [(jR, .inr (4, [.ref jT, .ref r1, .ref r2, .int (nI (wr)), .int (nI (fi)), .int (nI (pn)), .ref q6, .ref q7])), (r1, .inl (c1, 120, .inl s1)), (r2, .inl (c2, 124, .inl s2)), (jT, .inr (8, [.ref t0, .int (nI (kt))])), (t0, .inl (cC, 120, .inl gT))] sz)) 0 0 (va_A [(jR, .inr (4, [.ref jT, .ref r1, .ref r2, .int (nI (wr)), .int (nI (fi)), .int (nI (pn)), .ref q6, .ref q7])), (r1, .inl (c1, 120, .inl s1)), (r2, .inl (c2, 124, .inl s2)), (jT, .inr (8, [.ref t0, .int (nI (kt))])), (t0, .inl (cC, 120, .inl gT))] sz) := by
  refine Met.ofW (cc := cX4_readCondition) (maxL := 4) (ret := (some .boolean)) (by decide) rfl ?_
  intro p e s m args below meth c s₁ B hml hv
  obtain ⟨rfl, hsz, hP, hK, hD0, hX⟩ := hv
  have hx := B.exec
  have hb := B.bytes
  have hr := B.returns
  have hts := atoms_spec (ws := w_s_cond4x_g_0) B.pre
  have hown : s.vm.findClass RX4 = some m.cls := findClass_of_methodNamed B.named
  have hlocks := B.notSynchronized
  subst hsz
  have hD := hD0.self (sz := s.heap.size)
  generalize hAe : va_A [(jR, .inr (4, [.ref jT, .ref r1, .ref r2, .int (nI (wr)), .int (nI (fi)), .int (nI (pn)), .ref q6, .ref q7])), (r1, .inl (c1, 120, .inl s1)), (r2, .inl (c2, 124, .inl s2)), (jT, .inr (8, [.ref t0, .int (nI (kt))])), (t0, .inl (cC, 120, .inl gT))] s.heap.size = A at hD hX ⊢
  have hA : ∀ q : Nat, s.heap.size ≤ q → A q := fun q h => by rw [← hAe]; exact Or.inr h
  have hS : va_S A s.heap s.heap [] := va_S.rf
  have hP : va_P (dC, dI) vwCl [(jR, .inr (4, [.ref jT, .ref r1, .ref r2, .int (nI (wr)), .int (nI (fi)), .int (nI (pn)), .ref q6, .ref q7])), (r1, .inl (c1, 120, .inl s1)), (r2, .inl (c2, 124, .inl s2)), (jT, .inr (8, [.ref t0, .int (nI (kt))])), (t0, .inl (cC, 120, .inl gT))] s.heap := hP
  have hl := lv_entry ([.ref jR, .int (nI (dd)), .int 0]) (n := 4) (Nat.le_of_ble_eq_true rfl)
  rw [lg_entry_eq]
  generalize (lg_sl ([.ref jR, .int (nI (dd)), .int 0]) ++ List.replicate (4 - (lg_sl ([.ref jR, .int (nI (dd)), .int 0])).length) Slot.unset).toArray = ls at hl ⊢
  have hl : lv_has ls 4 [(0, .ref jR), (1, .int (nI (dd))), (2, .int 0)] := hl
  refine kQ (fun Q hQ => ?_)
  refine lv_aload_n hx hb dX4_readCondition_0 rfl (lv_at hl 0 rfl) ?_
  refine lv_iload_n hx hb dX4_readCondition_1 rfl (lv_at hl 1 rfl) ?_
  refine lv_iload_n hx hb dX4_readCondition_2 rfl (lv_at hl 2 rfl) ?_
  have bd_1 : dd + e1 = 5 := by omega
  have hCu := kCut (wc := [(jR, .inr (4, [.ref jT, .ref r1, .ref r2, .int (nI (wr)), .int (nI (fi)), .int (nI (pn)), .ref q6, .ref q7])), (r1, .inl (c1, 120, .inl s1)), (r2, .inl (c2, 124, .inl s2)), (jT, .inr (8, [.ref t0, .int (nI (kt))])), (t0, .inl (cC, 120, .inl gT))]) hP hD hS hA [0, 1, 2, 3, 4] rfl kc_nd_311 rfl
  have hPc := hCu.1
  have hDc := hCu.2.1
  have hFc := hCu.2.2
  have hKc := hK.sb (tys2 := [(c1, .int), (c2, .int), (cC, .char)]) [0, 1, 2] rfl
  refine va_calli (va_runV (As := [.int (nI (dd)), .int 0]) (rest := []) ⟨hx, hb, hml, hown, hts⟩ (s_truth4x_g_0 l dC dI jT t0 cC gT kt hkt hgT bt hbt hb8 jR r1 r2 c1 c2 s1 s2 wr fi q6 q7 hwr hfi pn hpn hwp b6 n6 g6 hn6 b7 n7 g7 hn7 gn6 hz6 gn7 hz7 e1 dd bd_1 ih s.heap.size) (cwV 2 hts (kG (List.forall_mem_cons.mpr ⟨(List.mem_cons_of_mem _ (List.mem_append_left _ (List.mem_of_getElem? (i := 42) rfl))), (List.forall_mem_cons.mpr ⟨(List.mem_cons_of_mem _ (List.mem_append_left _ (List.mem_of_getElem? (i := 41) rfl))), (List.forall_mem_cons.mpr ⟨(List.mem_cons_of_mem _ (List.mem_append_left _ (List.mem_of_getElem? (i := 40) rfl))), (List.forall_mem_cons.mpr ⟨(List.mem_cons_of_mem _ (List.mem_append_left _ (List.mem_of_getElem? (i := 0) rfl))), (fun _ h => absurd h List.not_mem_nil)⟩)⟩)⟩)⟩) (kGV _ _ _ _) (kFam (List.mem_cons_of_mem _ (List.mem_append_left _ (List.mem_of_getElem? (i := 39) rfl)))) gw_s_truth4x_g_0) rfl rfl rfl ⟨rfl, hd_X4_readTruth⟩ ⟨(show (10 + 6 * (e1 + 1)) + 1 ≤ (11 + 6 * (e1 + 1)) from by omega), (show 8 + (4 + 11) + 60 * (10 + 6 * (e1 + 1)) ≤ 60 * (11 + 6 * (e1 + 1)) from by omega)⟩) (kW_V kS2_blind (kS2_give hX hS hFc) (va_recv hKc hPc (ci := 4) (q0 := 0) rfl rfl) hPc hKc hDc) rfl rfl hl.1 rfl (lv_room (Nat.le_of_ble_eq_true rfl)) dX4_readCondition_3 ⟨(Nat.le_of_ble_eq_true rfl), (Nat.le_of_ble_eq_true rfl)⟩) hS (fun q _ h => hFc q h) hFc (fun r_2 => kU5 (fun S1_3 Wr_4 Pn_5 xo_6 xl_7 t H_8 locs ht hvm hw hB hz1 hk1 hS => ?_))
  try dsimp only at hw
  have hPD : kPD dC dI A [(jR, .inr (4, [.ref jT, .ref r1, .ref r2, .int (nI (Wr_4)), .int (nI (fi)), .int (nI (Pn_5)), .ref q6, .ref q7])), (r1, .inl (c1, 120, .inl S1_3)), (r2, .inl (c2, 124, .inl s2)), (jT, .inr (8, [.ref t0, .int (nI (kt))])), (t0, .inl (cC, 120, .inl gT))] H_8 := kJoinX hP hD [0, 1, 2, 3, 4] rfl hk1 hFc hB.1 ht hB.2.2 rfl [some 0, some 1, some 2, some 3, some 4] rfl rfl
  have hP := hPD.1
  have hD := hPD.2
  have hw_9 := hw
  refine lv_if_ne (tgt := 11) hx hb dX4_readCondition_6 kc_t_6_5 (fun c_10 => ?_) (fun c_10 => ?_)
  · obtain rfl : xo_6 = true := kBo_t (kNz9 hw_9.1 c_10)
    obtain ⟨hw_9_W, hw_9_S, hw_9_l, hw_9_p⟩ := hw_9.2.1.2.2 rfl
    have hw_9_k := hw_9.2.1.2.1
    refine lv_iconst (v := 0) hx hb dX4_readCondition_11 kc_i_0 ?_
    refine lv_istore_n hx hb dX4_readCondition_12 rfl hl kc_l_3_4 (kTo [(3, .int 0), (0, .ref jR), (1, .int (nI (dd))), (2, .int 0)]) (fun ls hl => ?_)
    have lp_k_11 : ∀ (n9 : Nat) (i : Nat) (xs1 : Nat → Int32) (xpn : Nat) (xwr : Nat) (xl : List Int32) (ivk_11_0 : i ≤ 120) (ivk_11_1 : xwr ≤ 120) (ivk_11_2 : xpn ≤ kt) (ivk_11_3 : kLoop bt kt 124 124 (kTruD bt kt g7 n7 (e1 + 1)) (120 - i) xpn xl = kConD bt kt g7 n7 (e1 + 1) pn) (ivk_11_4 : xwr = wr + xl.length) (ivk_11_5 : xs1 = kWrt s1 wr xl) (ivk_11_6 : pn + xl.length ≤ xpn) (ivk_11_7 : pn < xpn) (H : Heap) (locs : List Loc) (_ : va_P (dC, dI) vwCl [(jR, .inr (4, [.ref jT, .ref r1, .ref r2, .int (nI (xwr)), .int (nI (fi)), .int (nI (xpn)), .ref q6, .ref q7])), (r1, .inl (c1, 120, .inl xs1)), (r2, .inl (c2, 124, .inl s2)), (jT, .inr (8, [.ref t0, .int (nI (kt))])), (t0, .inl (cC, 120, .inl gT))] H) (_ : va_D A [(jR, .inr (4, [.ref jT, .ref r1, .ref r2, .int (nI (xwr)), .int (nI (fi)), .int (nI (xpn)), .ref q6, .ref q7])), (r1, .inl (c1, 120, .inl xs1)), (r2, .inl (c2, 124, .inl s2)), (jT, .inr (8, [.ref t0, .int (nI (kt))])), (t0, .inl (cC, 120, .inl gT))]) (_ : va_S A s.heap H locs) (ls : Array Slot) (_ : lv_has ls 4 [(3, .int (nI (i))), (0, .ref jR), (1, .int (nI (dd))), (2, .int 0)]) (_ : 120 - i < n9), W p l e (headSpec w_s_cond4x_g_0 ({ frames := (11 + 6 * (e1 + 1)), cells := 0, slots := 0, locals := 60 * (11 + 6 * (e1 + 1)) })).room s m (#[.ref jR, .int (nI (dd)), .int 0] : Array Value) below meth c H locs 0 0 Q (F0 m 13 ls []) := by
      intro n9
      induction n9 with
      | zero => intro i xs1 xpn xwr xl ivk_11_0 ivk_11_1 ivk_11_2 ivk_11_3 ivk_11_4 ivk_11_5 ivk_11_6 ivk_11_7 H locs hP hD hS ls hl hm9; exact absurd hm9 (Nat.not_lt_zero _)
      | succ n9 ih_k_11 =>
        intro i xs1 xpn xwr xl ivk_11_0 ivk_11_1 ivk_11_2 ivk_11_3 ivk_11_4 ivk_11_5 ivk_11_6 ivk_11_7 H locs hP hD hS ls hl hm9
        refine lv_iload_n hx hb dX4_readCondition_13 rfl (lv_at hl 0 rfl) ?_
        refine lv_bipush (v := 120) hx hb dX4_readCondition_14 kc_b_120 ?_
        refine lv_icmp_ge (tgt := 65) hx hb dX4_readCondition_16 kc_t_16_49 (fun c_12 => ?_) (fun c_12 => ?_)
        · have bd_14 : i < 2147483648 := by omega
          have hn_13 := kle (a := 120) (b := i) kc_31_120 bd_14 c_12
          refine lv_iconst (v := 1) hx hb dX4_readCondition_65 kc_i_1 ?_
          have hP9 := hP
          have hD9 := hD
          have hK9 := hK
          rw [hQ]
          exact W.zret (v := 1) hx hb hr rfl (fun t ht hW => ⟨⟨1, (xs1, xwr, xpn, true, xl), rfl, ⟨rfl, kPR_t (a := kConD bt kt g7 n7 (e1 + 1)) rfl (kConD_good hz7 (e1 + 1)) (by omega) (by rw [← ivk_11_3, show 120 - i = 0 by omega]; rfl) ivk_11_4 ivk_11_5, by omega⟩,  by rw [ht]; exact hP9, va_K.moved hW.alike hK9, hD9⟩, hS.F ht⟩) hS.2.2 dX4_readCondition_66
        · have bd_16 : i < 2147483648 := by omega
          have hn_15 := knle (a := 120) (b := i) kc_31_120 bd_16 c_12
          refine lv_aload_n hx hb dX4_readCondition_19 rfl (lv_at hl 1 rfl) ?_
          have bd_17 : xwr ≤ 120 := by omega
          have bd_18 : xpn ≤ kt := by omega
          have hCu := kCut (wc := [(jR, .inr (4, [.ref jT, .ref r1, .ref r2, .int (nI (xwr)), .int (nI (fi)), .int (nI (xpn)), .ref q6, .ref q7])), (r1, .inl (c1, 120, .inl xs1)), (r2, .inl (c2, 124, .inl s2)), (jT, .inr (8, [.ref t0, .int (nI (kt))])), (t0, .inl (cC, 120, .inl gT))]) hP hD hS hA [0, 1, 2, 3, 4] rfl kc_nd_311 rfl
          have hPc := hCu.1
          have hDc := hCu.2.1
          have hFc := hCu.2.2
          have hKc := hK.sb (tys2 := [(c1, .int), (c2, .int), (cC, .char)]) [0, 1, 2] rfl
          refine va_calli (va_runV (As := []) (rest := []) ⟨hx, hb, hml, hown, hts⟩ (s_look4x l dC dI jT t0 cC gT kt hkt hgT bt hbt hb8 jR r1 r2 c1 c2 xs1 s2 xwr fi q6 q7 bd_17 hfi xpn bd_18 H.size) (cwV 0 hts (kG (List.forall_mem_cons.mpr ⟨(List.mem_cons_of_mem _ (List.mem_append_left _ (List.mem_of_getElem? (i := 3) rfl))), (List.forall_mem_cons.mpr ⟨(List.mem_cons_of_mem _ (List.mem_append_left _ (List.mem_of_getElem? (i := 2) rfl))), (List.forall_mem_cons.mpr ⟨(List.mem_cons_of_mem _ (List.mem_append_left _ (List.mem_of_getElem? (i := 1) rfl))), (List.forall_mem_cons.mpr ⟨(List.mem_cons_of_mem _ (List.mem_append_left _ (List.mem_of_getElem? (i := 0) rfl))), (fun _ h => absurd h List.not_mem_nil)⟩)⟩)⟩)⟩) (kGV _ _ _ _) (fun _ h => List.mem_cons_of_mem _ (List.mem_append_right _ (List.mem_append_left _ h))) gw_s_look4x) rfl rfl rfl ⟨rfl, hd_X4_look⟩ ⟨(show 2 + 1 ≤ (11 + 6 * (e1 + 1)) from by omega), (show 8 + (2 + 11) + 60 * 2 ≤ 60 * (11 + 6 * (e1 + 1)) from by omega)⟩) (kW_V kT_blind kT_give (va_recv hKc hPc (ci := 4) (q0 := 0) rfl rfl) hPc hKc hDc) rfl rfl hl.1 rfl (lv_room (Nat.le_of_ble_eq_true rfl)) dX4_readCondition_20 ⟨(Nat.le_of_ble_eq_true rfl), (Nat.le_of_ble_eq_true rfl)⟩) hS (fun q _ h => hFc q h) hFc (fun r_19 => kU2 (fun Pn_20 ch_21 t H_22 locs ht hvm hw hB hz1 hk1 hS => ?_))
          try dsimp only at hw
          have hPD : kPD dC dI A [(jR, .inr (4, [.ref jT, .ref r1, .ref r2, .int (nI (xwr)), .int (nI (fi)), .int (nI (Pn_20)), .ref q6, .ref q7])), (r1, .inl (c1, 120, .inl xs1)), (r2, .inl (c2, 124, .inl s2)), (jT, .inr (8, [.ref t0, .int (nI (kt))])), (t0, .inl (cC, 120, .inl gT))] H_22 := kJoinX hP hD [0, 1, 2, 3, 4] rfl hk1 hFc hB.1 ht hB.2.2 rfl [some 0, some 1, some 2, some 3, some 4] rfl rfl
          have hP := hPD.1
          have hD := hPD.2
          obtain ⟨rfl, hw_23_0, hw_23_1, hw_23_2, hw_23_3, hw_23_4, hw_23_5, hw_23_6⟩ := hw
          refine lv_bipush (v := 124) hx hb dX4_readCondition_23 kc_b_124 ?_
          refine lv_icmp_ne (tgt := 65) hx hb dX4_readCondition_25 kc_t_25_40 (fun c_24 => ?_) (fun c_24 => ?_)
          · have bd_26 : ch_21 < 2147483648 := by omega
            have hn_25 := kneq (a := ch_21) (b := 124) bd_26 kc_31_124 c_24
            refine lv_iconst (v := 1) hx hb dX4_readCondition_65 kc_i_1 ?_
            have hP9 := hP
            have hD9 := hD
            have hK9 := hK
            rw [hQ]
            exact W.zret (v := 1) hx hb hr rfl (fun t ht hW => ⟨⟨1, (xs1, xwr, Pn_20, true, xl), rfl, ⟨rfl, kPR_t (a := kConD bt kt g7 n7 (e1 + 1)) rfl (kConD_good hz7 (e1 + 1)) (by omega) (by rw [← ivk_11_3, show 120 - i = (119 - i) + 1 by omega, kLoop_e (by rw [← hw_23_0]; omega), ← hw_23_1]) ivk_11_4 ivk_11_5, by omega⟩,  by rw [ht]; exact hP9, va_K.moved hW.alike hK9, hD9⟩, hS.F ht⟩) hS.2.2 dX4_readCondition_66
          · have bd_28 : ch_21 < 2147483648 := by omega
            have hn_27 := keq (a := ch_21) (b := 124) bd_28 kc_31_124 c_24
            refine lv_aload_n hx hb dX4_readCondition_28 rfl (lv_at hl 1 rfl) ?_
            refine lv_dup hx hb dX4_readCondition_29 rfl ?_
            refine va_get (D := (dC, dI)) (ci := 4) (v := .int (nI (Pn_20))) (C := RX4) (T := TX4) (N := 8) hx hb hts (fun _ h => List.mem_cons_of_mem _ (List.mem_append_right _ (List.mem_append_right _ (List.mem_append_right _ (List.mem_append_left _ h))))) hown hK hP 0 rfl rfl 5 kc_l_5_8 (hts (.fieldLink RX4 25 "NotEnded$Reader" "place" "I") (List.mem_cons_of_mem _ (List.mem_append_left _ (List.mem_of_getElem? (i := 11) rfl)))) (fun _ h9 => h9) rfl dX4_readCondition_30 ?_
            refine lv_iconst (v := 1) hx hb dX4_readCondition_33 kc_i_1 ?_
            refine lv_iadd hx hb dX4_readCondition_34 ?_
            refine lv_topi (fun y_29 ey_29 => ?_)
            obtain rfl : y_29 = nI (Pn_20 + 1) := ey_29.trans (nI_add (Pn_20) (1))
            refine va_put (D := (dC, dI)) (ci := 4) (v := .int (nI (Pn_20 + 1))) (ty := tyX4 5) (C := RX4) (T := TX4) (N := 8) hx hb hts (fun _ h => List.mem_cons_of_mem _ (List.mem_append_right _ (List.mem_append_right _ (List.mem_append_right _ (List.mem_append_left _ h))))) tyX4 tyX4_ok nmX4 hown hK hP hD hS 0 rfl rfl 5 kc_l_5_8 (hts (.fieldLink RX4 25 "NotEnded$Reader" "place" "I") (List.mem_cons_of_mem _ (List.mem_append_left _ (List.mem_of_getElem? (i := 11) rfl)))) (fun _ h9 => h9) rfl (tyX4_ok 5 kc_l_5_8) rfl rfl (Nat.le_of_ble_eq_true rfl) dX4_readCondition_35 (fun H locs hP hD hS => ?_)
            have hPD : kPD dC dI A [(jR, .inr (4, [.ref jT, .ref r1, .ref r2, .int (nI (xwr)), .int (nI (fi)), .int (nI (Pn_20 + 1)), .ref q6, .ref q7])), (r1, .inl (c1, 120, .inl xs1)), (r2, .inl (c2, 124, .inl s2)), (jT, .inr (8, [.ref t0, .int (nI (kt))])), (t0, .inl (cC, 120, .inl gT))] H := ⟨hP, hD⟩
            have hP := hPD.1
            have hD := hPD.2
            refine lv_aload_n hx hb dX4_readCondition_38 rfl (lv_at hl 1 rfl) ?_
            refine lv_iload_n hx hb dX4_readCondition_39 rfl (lv_at hl 2 rfl) ?_
            refine lv_iconst (v := 0) hx hb dX4_readCondition_40 kc_i_0 ?_
            have bd_30 : (Pn_20 + 1) ≤ kt := by omega
            have bd_31 : xwr ≤ (Pn_20 + 1) := by omega
            have hCu := kCut (wc := [(jR, .inr (4, [.ref jT, .ref r1, .ref r2, .int (nI (xwr)), .int (nI (fi)), .int (nI (Pn_20 + 1)), .ref q6, .ref q7])), (r1, .inl (c1, 120, .inl xs1)), (r2, .inl (c2, 124, .inl s2)), (jT, .inr (8, [.ref t0, .int (nI (kt))])), (t0, .inl (cC, 120, .inl gT))]) hP hD hS hA [0, 1, 2, 3, 4] rfl kc_nd_311 rfl
            have hPc := hCu.1
            have hDc := hCu.2.1
            have hFc := hCu.2.2
            have hKc := hK.sb (tys2 := [(c1, .int), (c2, .int), (cC, .char)]) [0, 1, 2] rfl
            refine va_calli (va_runV (As := [.int (nI (dd)), .int 0]) (rest := []) ⟨hx, hb, hml, hown, hts⟩ (s_truth4x_g_0 l dC dI jT t0 cC gT kt hkt hgT bt hbt hb8 jR r1 r2 c1 c2 xs1 s2 xwr fi q6 q7 bd_17 hfi (Pn_20 + 1) bd_30 bd_31 b6 n6 g6 hn6 b7 n7 g7 hn7 gn6 hz6 gn7 hz7 e1 dd bd_1 ih H.size) (cwV 2 hts (kG (List.forall_mem_cons.mpr ⟨(List.mem_cons_of_mem _ (List.mem_append_left _ (List.mem_of_getElem? (i := 42) rfl))), (List.forall_mem_cons.mpr ⟨(List.mem_cons_of_mem _ (List.mem_append_left _ (List.mem_of_getElem? (i := 41) rfl))), (List.forall_mem_cons.mpr ⟨(List.mem_cons_of_mem _ (List.mem_append_left _ (List.mem_of_getElem? (i := 40) rfl))), (List.forall_mem_cons.mpr ⟨(List.mem_cons_of_mem _ (List.mem_append_left _ (List.mem_of_getElem? (i := 0) rfl))), (fun _ h => absurd h List.not_mem_nil)⟩)⟩)⟩)⟩) (kGV _ _ _ _) (kFam (List.mem_cons_of_mem _ (List.mem_append_left _ (List.mem_of_getElem? (i := 39) rfl)))) gw_s_truth4x_g_0) rfl rfl rfl ⟨rfl, hd_X4_readTruth⟩ ⟨(show (10 + 6 * (e1 + 1)) + 1 ≤ (11 + 6 * (e1 + 1)) from by omega), (show 8 + (4 + 11) + 60 * (10 + 6 * (e1 + 1)) ≤ 60 * (11 + 6 * (e1 + 1)) from by omega)⟩) (kW_V kS2_blind (kS2_give hX hS hFc) (va_recv hKc hPc (ci := 4) (q0 := 0) rfl rfl) hPc hKc hDc) rfl rfl hl.1 rfl (lv_room (Nat.le_of_ble_eq_true rfl)) dX4_readCondition_41 ⟨(Nat.le_of_ble_eq_true rfl), (Nat.le_of_ble_eq_true rfl)⟩) hS (fun q _ h => hFc q h) hFc (fun r_32 => kU5 (fun S1_33 Wr_34 Pn_35 xo_36 xl_37 t H_38 locs ht hvm hw hB hz1 hk1 hS => ?_))
            try dsimp only at hw
            have hPD : kPD dC dI A [(jR, .inr (4, [.ref jT, .ref r1, .ref r2, .int (nI (Wr_34)), .int (nI (fi)), .int (nI (Pn_35)), .ref q6, .ref q7])), (r1, .inl (c1, 120, .inl S1_33)), (r2, .inl (c2, 124, .inl s2)), (jT, .inr (8, [.ref t0, .int (nI (kt))])), (t0, .inl (cC, 120, .inl gT))] H_38 := kJoinX hP hD [0, 1, 2, 3, 4] rfl hk1 hFc hB.1 ht hB.2.2 rfl [some 0, some 1, some 2, some 3, some 4] rfl rfl
            have hP := hPD.1
            have hD := hPD.2
            have hw_39 := hw
            refine lv_if_eq (tgt := 57) hx hb dX4_readCondition_44 kc_t_44_13 (fun c_40 => ?_) (fun c_40 => ?_)
            · obtain rfl : xo_36 = false := kBo_f (kZr9 hw_39.1 c_40)
              have hw_39_k := hw_39.2.1.2.1
              refine lv_iconst (v := 0) hx hb dX4_readCondition_57 kc_i_0 ?_
              have hP9 := hP
              have hD9 := hD
              have hK9 := hK
              rw [hQ]
              exact W.zret (v := 0) hx hb hr rfl (fun t ht hW => ⟨⟨0, (S1_33, Wr_34, Pn_35, false, ([])), rfl, ⟨rfl, kPR_f (by rw [← ivk_11_3, show 120 - i = (119 - i) + 1 by omega]; exact kLoop_f (by rw [← hw_23_0]; omega) (by rw [← hw_23_1]; exact hw_39.2.1.1)) (by omega), by omega⟩,  by rw [ht]; exact hP9, va_K.moved hW.alike hK9, hD9⟩, hS.F ht⟩) hS.2.2 dX4_readCondition_58
            · obtain rfl : xo_36 = true := kBo_t (kNz9 hw_39.1 c_40)
              obtain ⟨hw_39_W, hw_39_S, hw_39_l, hw_39_p⟩ := hw_39.2.1.2.2 rfl
              have hw_39_k := hw_39.2.1.2.1
              refine lv_aload_n hx hb dX4_readCondition_47 rfl (lv_at hl 1 rfl) ?_
              refine lv_sipush (v := 20124) hx hb dX4_readCondition_48 kc_s_20124 ?_
              have bd_41 : Wr_34 ≤ 120 := by omega
              have bd_42 : Pn_35 ≤ kt := by omega
              have bd_43 : Wr_34 < 120 := by omega
              have hCu := kCut (wc := [(jR, .inr (4, [.ref jT, .ref r1, .ref r2, .int (nI (Wr_34)), .int (nI (fi)), .int (nI (Pn_35)), .ref q6, .ref q7])), (r1, .inl (c1, 120, .inl S1_33)), (r2, .inl (c2, 124, .inl s2)), (jT, .inr (8, [.ref t0, .int (nI (kt))])), (t0, .inl (cC, 120, .inl gT))]) hP hD hS hA [0, 1, 2, 3, 4] rfl kc_nd_311 rfl
              have hPc := hCu.1
              have hDc := hCu.2.1
              have hFc := hCu.2.2
              have hKc := hK.sb (tys2 := [(c1, .int), (c2, .int), (cC, .char)]) [0, 1, 2] rfl
              refine va_calli (va_runV (As := [.int 20124]) (rest := []) ⟨hx, hb, hml, hown, hts⟩ (s_write4x l dC dI jT t0 cC gT kt hkt hgT bt hbt hb8 jR r1 r2 c1 c2 S1_33 s2 Wr_34 fi q6 q7 bd_41 hfi Pn_35 bd_42 20124 bd_43 H_38.size) (cwV 1 hts (kG (List.forall_mem_cons.mpr ⟨(List.mem_cons_of_mem _ (List.mem_append_left _ (List.mem_of_getElem? (i := 14) rfl))), (List.forall_mem_cons.mpr ⟨(List.mem_cons_of_mem _ (List.mem_append_left _ (List.mem_of_getElem? (i := 13) rfl))), (List.forall_mem_cons.mpr ⟨(List.mem_cons_of_mem _ (List.mem_append_left _ (List.mem_of_getElem? (i := 12) rfl))), (List.forall_mem_cons.mpr ⟨(List.mem_cons_of_mem _ (List.mem_append_left _ (List.mem_of_getElem? (i := 0) rfl))), (fun _ h => absurd h List.not_mem_nil)⟩)⟩)⟩)⟩) (kGV _ _ _ _) (fun _ h => List.mem_cons_of_mem _ (List.mem_append_right _ (List.mem_append_right _ (List.mem_append_right _ (List.mem_append_right _ (List.mem_append_right _ (List.mem_append_left _ h))))))) gw_s_write4x) rfl rfl rfl ⟨rfl, hd_X4_write⟩ ⟨(show 1 + 1 ≤ (11 + 6 * (e1 + 1)) from by omega), (show 8 + (2 + 11) + 60 * 1 ≤ 60 * (11 + 6 * (e1 + 1)) from by omega)⟩) (kW_V kT_blind kT_give (va_recv hKc hPc (ci := 4) (q0 := 0) rfl rfl) hPc hKc hDc) rfl rfl hl.1 rfl (lv_room (Nat.le_of_ble_eq_true rfl)) dX4_readCondition_51 ⟨(Nat.le_of_ble_eq_true rfl), (Nat.le_of_ble_eq_true rfl)⟩) hS (fun q _ h => hFc q h) hFc (fun r_44 => kU2 (fun S1_45 Wr_46 t H_47 locs ht hvm hw hB hz1 hk1 hS => ?_))
              try dsimp only at hw
              have hPD : kPD dC dI A [(jR, .inr (4, [.ref jT, .ref r1, .ref r2, .int (nI (Wr_46)), .int (nI (fi)), .int (nI (Pn_35)), .ref q6, .ref q7])), (r1, .inl (c1, 120, .inl S1_45)), (r2, .inl (c2, 124, .inl s2)), (jT, .inr (8, [.ref t0, .int (nI (kt))])), (t0, .inl (cC, 120, .inl gT))] H_47 := kJoinX hP hD [0, 1, 2, 3, 4] rfl hk1 hFc hB.1 ht hB.2.2 rfl [some 0, some 1, some 2, some 3, some 4] rfl rfl
              have hP := hPD.1
              have hD := hPD.2
              obtain ⟨rfl, hw_48⟩ := hw
              refine lv_if_ne (tgt := 59) hx hb dX4_readCondition_54 kc_t_54_5 (fun c_49 => ?_) (fun c_49 => absurd c_49 (by decide))
              refine lv_iinc (v := nI (i + 1)) hx hb dX4_readCondition_59 hl (k := 0) rfl (kInc _ 1) kc_l_3_4 (kTo [(3, .int (nI (i + 1))), (0, .ref jR), (1, .int (nI (dd))), (2, .int 0)]) (fun ls hl => ?_)
              refine lv_goto (tgt := 13) hx hb dX4_readCondition_62 kc_t_62_m49 ?_
              exact ih_k_11 (i + 1) S1_45 Pn_35 Wr_46 (xl ++ xl_37 ++ [nI (20000 + 124)]) (by omega) (by omega) (by omega) (by have e9 := kLoop_t (b := bt) (n := kt) (c1 := 124) (c2 := 124) (a := kTruD bt kt g7 n7 (e1 + 1)) (f := 120 - (i + 1)) (p := xpn) (l := xl) (by rw [← hw_23_0]; omega) (by rw [← hw_23_1]; exact hw_39.2.1.1); rw [← hw_23_0] at e9; rw [show ch_21 = 124 by omega] at e9; rw [← e9, show (120 - (i + 1)) + 1 = 120 - i by omega]; exact ivk_11_3) (by simp only [List.length_append, List.length_cons, List.length_nil]; omega) (kWrt3 ivk_11_5 ivk_11_4 hw_39_S hw_39_W hw_48.2) (by simp only [List.length_append, List.length_cons, List.length_nil]; omega) (by omega) _ _ hP hD hS ls (lv_sub hl [0, 1, 2, 3] rfl) (by omega)
    exact lp_k_11 (120 - 0 + 1) 0 S1_3 Pn_5 Wr_4 xl_7 (by omega) (by omega) (by omega) (kMany_t hw_9.2.1.1).symm hw_9_W hw_9_S hw_9_l hw_9_p _ _ hP hD hS ls (lv_sub hl [0, 1, 2, 3] rfl) (by omega)
  · obtain rfl : xo_6 = false := kBo_f (kZr9 hw_9.1 c_10)
    have hw_9_k := hw_9.2.1.2.1
    refine lv_iconst (v := 0) hx hb dX4_readCondition_9 kc_i_0 ?_
    have hP9 := hP
    have hD9 := hD
    have hK9 := hK
    rw [hQ]
    exact W.zret (v := 0) hx hb hr rfl (fun t ht hW => ⟨⟨0, (S1_3, Wr_4, Pn_5, false, ([])), rfl, ⟨rfl, kPR_f (kMany_f hw_9.2.1.1) (by omega), by omega⟩,  by rw [ht]; exact hP9, va_K.moved hW.alike hK9, hD9⟩, hS.F ht⟩) hS.2.2 dX4_readCondition_10

def w_s_cond4x_g_1 : List Cond := .code yX4_readCondition cX4_readCondition 4 (some .boolean) :: wf_rq
set_option maxHeartbeats 4000000 in
set_option maxRecDepth 100000 in
theorem s_cond4x_g_1 (l : Launch) (dC : Nat → ClassId) (dI : Nat → Nat → Nat) (jT : Nat) (t0 : Nat) (cC : ClassId) (gT : Nat → Int32) (kt : Nat) (hkt : kt ≤ 120) (hgT : ∀ j : Nat, narrow .char (.int (gT j)) = .int (gT j)) (bt : Nat → Nat) (hbt : ∀ j : Nat, gT j = nI (bt j)) (hb8 : ∀ j : Nat, bt j < 256) (jR : Nat) (r1 : Nat) (r2 : Nat) (c1 : ClassId) (c2 : ClassId) (s1 : Nat → Int32) (s2 : Nat → Int32) (wr : Nat) (fi : Nat) (q6 : Nat) (q7 : Nat) (hwr : wr ≤ 120) (hfi : fi ≤ 124) (pn : Nat) (hpn : pn ≤ kt) (hwp : wr ≤ pn) (b6 : Nat) (n6 : Nat) (g6 : Nat → Int32) (hn6 : n6 ≤ 8) (b7 : Nat) (n7 : Nat) (g7 : Nat → Int32) (hn7 : n7 ≤ 8) (gn6 : ∀ k : Nat, ∃ v : Nat, v < 128 ∧ g6 k = nI v) (hz6 : kIx g6 n6 (nI 0) = n6) (gn7 : ∀ k : Nat, ∃ v : Nat, v < 128 ∧ g7 k = nI v) (hz7 : kIx g7 n7 (nI 0) = n7) (e1 : Nat) (dd : Nat) (hdd : dd + e1 = 5) (ih : kIHq e1) (sz : Nat) : Met l yX4_readCondition w_s_cond4x_g_1 ({ frames := (11 + 6 * (e1 + 1)), cells := 0, slots := 0, locals := 60 * (11 + 6 * (e1 + 1)) }) (kW dC dI [.ref jR, .int (nI (dd)), .int 1] [(jR, .inr (4, [.ref jT, .ref r1, .ref r2, .int (nI (wr)), .int (nI (fi)), .int (nI (pn)), .ref q6, .ref q7])), (r1, .inl (c1, 120, .inl s1)), (r2, .inl (c2, 124, .inl s2)), (jT, .inr (8, [.ref t0, .int (nI (kt))])), (t0, .inl (cC, 120, .inl gT))] [(c1, .int), (c2, .int), (cC, .char)] (kS2 q6 b6 n6 g6 q7 b7 n7 g7 (va_A [(jR, .inr (4, [.ref jT, .ref r1, .ref r2, .int (nI (wr)), .int (nI (fi)), .int (nI (pn)), .ref q6, .ref q7])), (r1, .inl (c1, 120, .inl s1)), (r2, .inl (c2, 124, .inl s2)), (jT, .inr (8, [.ref t0, .int (nI (kt))])), (t0, .inl (cC, 120, .inl gT))] sz)) sz) (va_Qi (fun (r : Int32) (u : (Nat → Int32) × Nat × Nat × Bool × (List Int32)) => match u with | (S1, Wr, Pn, xo, xl) => (r = kBo xo ∧ kPR (kConZ bt kt g7 n7 (e1 + 1) pn) pn kt wr s1 xo Pn xl Wr S1 ∧ Wr ≤ 120)) (fun (u : (Nat → Int32) × Nat × Nat × Bool × (List Int32)) => match u with | (S1, Wr, Pn, xo, xl) => fun t : State => kB dC dI [(jR, .inr (4, [.ref jT, .ref r1, .ref r2, .int (nI (Wr)), .int (nI (fi)), .int (nI (Pn)), .ref q6, .ref q7])), (r1, .inl (c1, 120, .inl S1)), (r2, .inl (c2, 124, .inl s2)), (jT, .inr (8, [.ref t0, .int (nI (kt))])), (t0, .inl (cC, 120, .inl gT))] [(c1, .int), (c2, .int), (cC, .char)] (va_A [(jR, .inr (4, [.ref jT, .ref r1, .ref r2, .int (nI (wr)), .int (nI (fi)), .int (nI (pn)), .ref q6, .ref q7])), (r1, .inl (c1, 120, .inl s1)), (r2, .inl (c2, 124, .inl s2)), (jT, .inr (8, [.ref t0, .int (nI (kt))])), (t0, .inl (cC, 120, .inl gT))] sz) t) (va_A [(jR, .inr (4, [.ref jT, .ref r1, .ref r2, .int (nI (wr)), .int (nI (fi)), .int (nI (pn)), .ref q6, .ref q7])), (r1, .inl (c1, 120, .inl s1)), (r2, .inl (c2, 124, .inl s2)), (jT, .inr (8, [.ref t0, .int (nI (kt))])), (t0, .inl (cC, 120, .inl gT))] sz)) 0 0 (va_A [(jR, .inr (4, [.ref jT, .ref r1, .ref r2, .int (nI (wr)), .int (nI (fi)), .int (nI (pn)), .ref q6, .ref q7])), (r1, .inl (c1, 120, .inl s1)), (r2, .inl (c2, 124, .inl s2)), (jT, .inr (8, [.ref t0, .int (nI (kt))])), (t0, .inl (cC, 120, .inl gT))] sz) := by
  refine Met.ofW (cc := cX4_readCondition) (maxL := 4) (ret := (some .boolean)) (by decide) rfl ?_
  intro p e s m args below meth c s₁ B hml hv
  obtain ⟨rfl, hsz, hP, hK, hD0, hX⟩ := hv
  have hx := B.exec
  have hb := B.bytes
  have hr := B.returns
  have hts := atoms_spec (ws := w_s_cond4x_g_1) B.pre
  have hown : s.vm.findClass RX4 = some m.cls := findClass_of_methodNamed B.named
  have hlocks := B.notSynchronized
  subst hsz
  have hD := hD0.self (sz := s.heap.size)
  generalize hAe : va_A [(jR, .inr (4, [.ref jT, .ref r1, .ref r2, .int (nI (wr)), .int (nI (fi)), .int (nI (pn)), .ref q6, .ref q7])), (r1, .inl (c1, 120, .inl s1)), (r2, .inl (c2, 124, .inl s2)), (jT, .inr (8, [.ref t0, .int (nI (kt))])), (t0, .inl (cC, 120, .inl gT))] s.heap.size = A at hD hX ⊢
  have hA : ∀ q : Nat, s.heap.size ≤ q → A q := fun q h => by rw [← hAe]; exact Or.inr h
  have hS : va_S A s.heap s.heap [] := va_S.rf
  have hP : va_P (dC, dI) vwCl [(jR, .inr (4, [.ref jT, .ref r1, .ref r2, .int (nI (wr)), .int (nI (fi)), .int (nI (pn)), .ref q6, .ref q7])), (r1, .inl (c1, 120, .inl s1)), (r2, .inl (c2, 124, .inl s2)), (jT, .inr (8, [.ref t0, .int (nI (kt))])), (t0, .inl (cC, 120, .inl gT))] s.heap := hP
  have hl := lv_entry ([.ref jR, .int (nI (dd)), .int 1]) (n := 4) (Nat.le_of_ble_eq_true rfl)
  rw [lg_entry_eq]
  generalize (lg_sl ([.ref jR, .int (nI (dd)), .int 1]) ++ List.replicate (4 - (lg_sl ([.ref jR, .int (nI (dd)), .int 1])).length) Slot.unset).toArray = ls at hl ⊢
  have hl : lv_has ls 4 [(0, .ref jR), (1, .int (nI (dd))), (2, .int 1)] := hl
  refine kQ (fun Q hQ => ?_)
  refine lv_aload_n hx hb dX4_readCondition_0 rfl (lv_at hl 0 rfl) ?_
  refine lv_iload_n hx hb dX4_readCondition_1 rfl (lv_at hl 1 rfl) ?_
  refine lv_iload_n hx hb dX4_readCondition_2 rfl (lv_at hl 2 rfl) ?_
  have bd_1 : dd + e1 = 5 := by omega
  have hCu := kCut (wc := [(jR, .inr (4, [.ref jT, .ref r1, .ref r2, .int (nI (wr)), .int (nI (fi)), .int (nI (pn)), .ref q6, .ref q7])), (r1, .inl (c1, 120, .inl s1)), (r2, .inl (c2, 124, .inl s2)), (jT, .inr (8, [.ref t0, .int (nI (kt))])), (t0, .inl (cC, 120, .inl gT))]) hP hD hS hA [0, 1, 2, 3, 4] rfl kc_nd_311 rfl
  have hPc := hCu.1
  have hDc := hCu.2.1
  have hFc := hCu.2.2
  have hKc := hK.sb (tys2 := [(c1, .int), (c2, .int), (cC, .char)]) [0, 1, 2] rfl
  refine va_calli (va_runV (As := [.int (nI (dd)), .int 1]) (rest := []) ⟨hx, hb, hml, hown, hts⟩ (s_truth4x_g_1 l dC dI jT t0 cC gT kt hkt hgT bt hbt hb8 jR r1 r2 c1 c2 s1 s2 wr fi q6 q7 hwr hfi pn hpn hwp b6 n6 g6 hn6 b7 n7 g7 hn7 gn6 hz6 gn7 hz7 e1 dd bd_1 ih s.heap.size) (cwV 2 hts (kG (List.forall_mem_cons.mpr ⟨(List.mem_cons_of_mem _ (List.mem_append_left _ (List.mem_of_getElem? (i := 42) rfl))), (List.forall_mem_cons.mpr ⟨(List.mem_cons_of_mem _ (List.mem_append_left _ (List.mem_of_getElem? (i := 41) rfl))), (List.forall_mem_cons.mpr ⟨(List.mem_cons_of_mem _ (List.mem_append_left _ (List.mem_of_getElem? (i := 40) rfl))), (List.forall_mem_cons.mpr ⟨(List.mem_cons_of_mem _ (List.mem_append_left _ (List.mem_of_getElem? (i := 0) rfl))), (fun _ h => absurd h List.not_mem_nil)⟩)⟩)⟩)⟩) (kGV _ _ _ _) (kFam (List.mem_cons_of_mem _ (List.mem_append_left _ (List.mem_of_getElem? (i := 39) rfl)))) gw_s_truth4x_g_1) rfl rfl rfl ⟨rfl, hd_X4_readTruth⟩ ⟨(show (10 + 6 * (e1 + 1)) + 1 ≤ (11 + 6 * (e1 + 1)) from by omega), (show 8 + (4 + 11) + 60 * (10 + 6 * (e1 + 1)) ≤ 60 * (11 + 6 * (e1 + 1)) from by omega)⟩) (kW_V kS2_blind (kS2_give hX hS hFc) (va_recv hKc hPc (ci := 4) (q0 := 0) rfl rfl) hPc hKc hDc) rfl rfl hl.1 rfl (lv_room (Nat.le_of_ble_eq_true rfl)) dX4_readCondition_3 ⟨(Nat.le_of_ble_eq_true rfl), (Nat.le_of_ble_eq_true rfl)⟩) hS (fun q _ h => hFc q h) hFc (fun r_2 => kU5 (fun S1_3 Wr_4 Pn_5 xo_6 xl_7 t H_8 locs ht hvm hw hB hz1 hk1 hS => ?_))
  try dsimp only at hw
  have hPD : kPD dC dI A [(jR, .inr (4, [.ref jT, .ref r1, .ref r2, .int (nI (Wr_4)), .int (nI (fi)), .int (nI (Pn_5)), .ref q6, .ref q7])), (r1, .inl (c1, 120, .inl S1_3)), (r2, .inl (c2, 124, .inl s2)), (jT, .inr (8, [.ref t0, .int (nI (kt))])), (t0, .inl (cC, 120, .inl gT))] H_8 := kJoinX hP hD [0, 1, 2, 3, 4] rfl hk1 hFc hB.1 ht hB.2.2 rfl [some 0, some 1, some 2, some 3, some 4] rfl rfl
  have hP := hPD.1
  have hD := hPD.2
  have hw_9 := hw
  refine lv_if_ne (tgt := 11) hx hb dX4_readCondition_6 kc_t_6_5 (fun c_10 => ?_) (fun c_10 => ?_)
  · obtain rfl : xo_6 = true := kBo_t (kNz9 hw_9.1 c_10)
    obtain ⟨hw_9_W, hw_9_S, hw_9_l, hw_9_p⟩ := hw_9.2.1.2.2 rfl
    have hw_9_k := hw_9.2.1.2.1
    refine lv_iconst (v := 0) hx hb dX4_readCondition_11 kc_i_0 ?_
    refine lv_istore_n hx hb dX4_readCondition_12 rfl hl kc_l_3_4 (kTo [(3, .int 0), (0, .ref jR), (1, .int (nI (dd))), (2, .int 1)]) (fun ls hl => ?_)
    have lp_k_11 : ∀ (n9 : Nat) (i : Nat) (xs1 : Nat → Int32) (xpn : Nat) (xwr : Nat) (xl : List Int32) (ivk_11_0 : i ≤ 120) (ivk_11_1 : xwr ≤ 120) (ivk_11_2 : xpn ≤ kt) (ivk_11_3 : kLoop bt kt 124 124 (kTruD bt kt g7 n7 (e1 + 1)) (120 - i) xpn xl = kConZ bt kt g7 n7 (e1 + 1) pn) (ivk_11_4 : xwr = wr + xl.length) (ivk_11_5 : xs1 = kWrt s1 wr xl) (ivk_11_6 : pn + xl.length ≤ xpn) (ivk_11_7 : pn < xpn) (H : Heap) (locs : List Loc) (_ : va_P (dC, dI) vwCl [(jR, .inr (4, [.ref jT, .ref r1, .ref r2, .int (nI (xwr)), .int (nI (fi)), .int (nI (xpn)), .ref q6, .ref q7])), (r1, .inl (c1, 120, .inl xs1)), (r2, .inl (c2, 124, .inl s2)), (jT, .inr (8, [.ref t0, .int (nI (kt))])), (t0, .inl (cC, 120, .inl gT))] H) (_ : va_D A [(jR, .inr (4, [.ref jT, .ref r1, .ref r2, .int (nI (xwr)), .int (nI (fi)), .int (nI (xpn)), .ref q6, .ref q7])), (r1, .inl (c1, 120, .inl xs1)), (r2, .inl (c2, 124, .inl s2)), (jT, .inr (8, [.ref t0, .int (nI (kt))])), (t0, .inl (cC, 120, .inl gT))]) (_ : va_S A s.heap H locs) (ls : Array Slot) (_ : lv_has ls 4 [(3, .int (nI (i))), (0, .ref jR), (1, .int (nI (dd))), (2, .int 1)]) (_ : 120 - i < n9), W p l e (headSpec w_s_cond4x_g_1 ({ frames := (11 + 6 * (e1 + 1)), cells := 0, slots := 0, locals := 60 * (11 + 6 * (e1 + 1)) })).room s m (#[.ref jR, .int (nI (dd)), .int 1] : Array Value) below meth c H locs 0 0 Q (F0 m 13 ls []) := by
      intro n9
      induction n9 with
      | zero => intro i xs1 xpn xwr xl ivk_11_0 ivk_11_1 ivk_11_2 ivk_11_3 ivk_11_4 ivk_11_5 ivk_11_6 ivk_11_7 H locs hP hD hS ls hl hm9; exact absurd hm9 (Nat.not_lt_zero _)
      | succ n9 ih_k_11 =>
        intro i xs1 xpn xwr xl ivk_11_0 ivk_11_1 ivk_11_2 ivk_11_3 ivk_11_4 ivk_11_5 ivk_11_6 ivk_11_7 H locs hP hD hS ls hl hm9
        refine lv_iload_n hx hb dX4_readCondition_13 rfl (lv_at hl 0 rfl) ?_
        refine lv_bipush (v := 120) hx hb dX4_readCondition_14 kc_b_120 ?_
        refine lv_icmp_ge (tgt := 65) hx hb dX4_readCondition_16 kc_t_16_49 (fun c_12 => ?_) (fun c_12 => ?_)
        · have bd_14 : i < 2147483648 := by omega
          have hn_13 := kle (a := 120) (b := i) kc_31_120 bd_14 c_12
          refine lv_iconst (v := 1) hx hb dX4_readCondition_65 kc_i_1 ?_
          have hP9 := hP
          have hD9 := hD
          have hK9 := hK
          rw [hQ]
          exact W.zret (v := 1) hx hb hr rfl (fun t ht hW => ⟨⟨1, (xs1, xwr, xpn, true, xl), rfl, ⟨rfl, kPR_t (a := kConZ bt kt g7 n7 (e1 + 1)) rfl (kConZ_good hz7 (e1 + 1)) (by omega) (by rw [← ivk_11_3, show 120 - i = 0 by omega]; rfl) ivk_11_4 ivk_11_5, by omega⟩,  by rw [ht]; exact hP9, va_K.moved hW.alike hK9, hD9⟩, hS.F ht⟩) hS.2.2 dX4_readCondition_66
        · have bd_16 : i < 2147483648 := by omega
          have hn_15 := knle (a := 120) (b := i) kc_31_120 bd_16 c_12
          refine lv_aload_n hx hb dX4_readCondition_19 rfl (lv_at hl 1 rfl) ?_
          have bd_17 : xwr ≤ 120 := by omega
          have bd_18 : xpn ≤ kt := by omega
          have hCu := kCut (wc := [(jR, .inr (4, [.ref jT, .ref r1, .ref r2, .int (nI (xwr)), .int (nI (fi)), .int (nI (xpn)), .ref q6, .ref q7])), (r1, .inl (c1, 120, .inl xs1)), (r2, .inl (c2, 124, .inl s2)), (jT, .inr (8, [.ref t0, .int (nI (kt))])), (t0, .inl (cC, 120, .inl gT))]) hP hD hS hA [0, 1, 2, 3, 4] rfl kc_nd_311 rfl
          have hPc := hCu.1
          have hDc := hCu.2.1
          have hFc := hCu.2.2
          have hKc := hK.sb (tys2 := [(c1, .int), (c2, .int), (cC, .char)]) [0, 1, 2] rfl
          refine va_calli (va_runV (As := []) (rest := []) ⟨hx, hb, hml, hown, hts⟩ (s_look4x l dC dI jT t0 cC gT kt hkt hgT bt hbt hb8 jR r1 r2 c1 c2 xs1 s2 xwr fi q6 q7 bd_17 hfi xpn bd_18 H.size) (cwV 0 hts (kG (List.forall_mem_cons.mpr ⟨(List.mem_cons_of_mem _ (List.mem_append_left _ (List.mem_of_getElem? (i := 3) rfl))), (List.forall_mem_cons.mpr ⟨(List.mem_cons_of_mem _ (List.mem_append_left _ (List.mem_of_getElem? (i := 2) rfl))), (List.forall_mem_cons.mpr ⟨(List.mem_cons_of_mem _ (List.mem_append_left _ (List.mem_of_getElem? (i := 1) rfl))), (List.forall_mem_cons.mpr ⟨(List.mem_cons_of_mem _ (List.mem_append_left _ (List.mem_of_getElem? (i := 0) rfl))), (fun _ h => absurd h List.not_mem_nil)⟩)⟩)⟩)⟩) (kGV _ _ _ _) (fun _ h => List.mem_cons_of_mem _ (List.mem_append_right _ (List.mem_append_left _ h))) gw_s_look4x) rfl rfl rfl ⟨rfl, hd_X4_look⟩ ⟨(show 2 + 1 ≤ (11 + 6 * (e1 + 1)) from by omega), (show 8 + (2 + 11) + 60 * 2 ≤ 60 * (11 + 6 * (e1 + 1)) from by omega)⟩) (kW_V kT_blind kT_give (va_recv hKc hPc (ci := 4) (q0 := 0) rfl rfl) hPc hKc hDc) rfl rfl hl.1 rfl (lv_room (Nat.le_of_ble_eq_true rfl)) dX4_readCondition_20 ⟨(Nat.le_of_ble_eq_true rfl), (Nat.le_of_ble_eq_true rfl)⟩) hS (fun q _ h => hFc q h) hFc (fun r_19 => kU2 (fun Pn_20 ch_21 t H_22 locs ht hvm hw hB hz1 hk1 hS => ?_))
          try dsimp only at hw
          have hPD : kPD dC dI A [(jR, .inr (4, [.ref jT, .ref r1, .ref r2, .int (nI (xwr)), .int (nI (fi)), .int (nI (Pn_20)), .ref q6, .ref q7])), (r1, .inl (c1, 120, .inl xs1)), (r2, .inl (c2, 124, .inl s2)), (jT, .inr (8, [.ref t0, .int (nI (kt))])), (t0, .inl (cC, 120, .inl gT))] H_22 := kJoinX hP hD [0, 1, 2, 3, 4] rfl hk1 hFc hB.1 ht hB.2.2 rfl [some 0, some 1, some 2, some 3, some 4] rfl rfl
          have hP := hPD.1
          have hD := hPD.2
          obtain ⟨rfl, hw_23_0, hw_23_1, hw_23_2, hw_23_3, hw_23_4, hw_23_5, hw_23_6⟩ := hw
          refine lv_bipush (v := 124) hx hb dX4_readCondition_23 kc_b_124 ?_
          refine lv_icmp_ne (tgt := 65) hx hb dX4_readCondition_25 kc_t_25_40 (fun c_24 => ?_) (fun c_24 => ?_)
          · have bd_26 : ch_21 < 2147483648 := by omega
            have hn_25 := kneq (a := ch_21) (b := 124) bd_26 kc_31_124 c_24
            refine lv_iconst (v := 1) hx hb dX4_readCondition_65 kc_i_1 ?_
            have hP9 := hP
            have hD9 := hD
            have hK9 := hK
            rw [hQ]
            exact W.zret (v := 1) hx hb hr rfl (fun t ht hW => ⟨⟨1, (xs1, xwr, Pn_20, true, xl), rfl, ⟨rfl, kPR_t (a := kConZ bt kt g7 n7 (e1 + 1)) rfl (kConZ_good hz7 (e1 + 1)) (by omega) (by rw [← ivk_11_3, show 120 - i = (119 - i) + 1 by omega, kLoop_e (by rw [← hw_23_0]; omega), ← hw_23_1]) ivk_11_4 ivk_11_5, by omega⟩,  by rw [ht]; exact hP9, va_K.moved hW.alike hK9, hD9⟩, hS.F ht⟩) hS.2.2 dX4_readCondition_66
          · have bd_28 : ch_21 < 2147483648 := by omega
            have hn_27 := keq (a := ch_21) (b := 124) bd_28 kc_31_124 c_24
            refine lv_aload_n hx hb dX4_readCondition_28 rfl (lv_at hl 1 rfl) ?_
            refine lv_dup hx hb dX4_readCondition_29 rfl ?_
            refine va_get (D := (dC, dI)) (ci := 4) (v := .int (nI (Pn_20))) (C := RX4) (T := TX4) (N := 8) hx hb hts (fun _ h => List.mem_cons_of_mem _ (List.mem_append_right _ (List.mem_append_right _ (List.mem_append_right _ (List.mem_append_left _ h))))) hown hK hP 0 rfl rfl 5 kc_l_5_8 (hts (.fieldLink RX4 25 "NotEnded$Reader" "place" "I") (List.mem_cons_of_mem _ (List.mem_append_left _ (List.mem_of_getElem? (i := 11) rfl)))) (fun _ h9 => h9) rfl dX4_readCondition_30 ?_
            refine lv_iconst (v := 1) hx hb dX4_readCondition_33 kc_i_1 ?_
            refine lv_iadd hx hb dX4_readCondition_34 ?_
            refine lv_topi (fun y_29 ey_29 => ?_)
            obtain rfl : y_29 = nI (Pn_20 + 1) := ey_29.trans (nI_add (Pn_20) (1))
            refine va_put (D := (dC, dI)) (ci := 4) (v := .int (nI (Pn_20 + 1))) (ty := tyX4 5) (C := RX4) (T := TX4) (N := 8) hx hb hts (fun _ h => List.mem_cons_of_mem _ (List.mem_append_right _ (List.mem_append_right _ (List.mem_append_right _ (List.mem_append_left _ h))))) tyX4 tyX4_ok nmX4 hown hK hP hD hS 0 rfl rfl 5 kc_l_5_8 (hts (.fieldLink RX4 25 "NotEnded$Reader" "place" "I") (List.mem_cons_of_mem _ (List.mem_append_left _ (List.mem_of_getElem? (i := 11) rfl)))) (fun _ h9 => h9) rfl (tyX4_ok 5 kc_l_5_8) rfl rfl (Nat.le_of_ble_eq_true rfl) dX4_readCondition_35 (fun H locs hP hD hS => ?_)
            have hPD : kPD dC dI A [(jR, .inr (4, [.ref jT, .ref r1, .ref r2, .int (nI (xwr)), .int (nI (fi)), .int (nI (Pn_20 + 1)), .ref q6, .ref q7])), (r1, .inl (c1, 120, .inl xs1)), (r2, .inl (c2, 124, .inl s2)), (jT, .inr (8, [.ref t0, .int (nI (kt))])), (t0, .inl (cC, 120, .inl gT))] H := ⟨hP, hD⟩
            have hP := hPD.1
            have hD := hPD.2
            refine lv_aload_n hx hb dX4_readCondition_38 rfl (lv_at hl 1 rfl) ?_
            refine lv_iload_n hx hb dX4_readCondition_39 rfl (lv_at hl 2 rfl) ?_
            refine lv_iconst (v := 0) hx hb dX4_readCondition_40 kc_i_0 ?_
            have bd_30 : (Pn_20 + 1) ≤ kt := by omega
            have bd_31 : xwr ≤ (Pn_20 + 1) := by omega
            have hCu := kCut (wc := [(jR, .inr (4, [.ref jT, .ref r1, .ref r2, .int (nI (xwr)), .int (nI (fi)), .int (nI (Pn_20 + 1)), .ref q6, .ref q7])), (r1, .inl (c1, 120, .inl xs1)), (r2, .inl (c2, 124, .inl s2)), (jT, .inr (8, [.ref t0, .int (nI (kt))])), (t0, .inl (cC, 120, .inl gT))]) hP hD hS hA [0, 1, 2, 3, 4] rfl kc_nd_311 rfl
            have hPc := hCu.1
            have hDc := hCu.2.1
            have hFc := hCu.2.2
            have hKc := hK.sb (tys2 := [(c1, .int), (c2, .int), (cC, .char)]) [0, 1, 2] rfl
            refine va_calli (va_runV (As := [.int (nI (dd)), .int 0]) (rest := []) ⟨hx, hb, hml, hown, hts⟩ (s_truth4x_g_0 l dC dI jT t0 cC gT kt hkt hgT bt hbt hb8 jR r1 r2 c1 c2 xs1 s2 xwr fi q6 q7 bd_17 hfi (Pn_20 + 1) bd_30 bd_31 b6 n6 g6 hn6 b7 n7 g7 hn7 gn6 hz6 gn7 hz7 e1 dd bd_1 ih H.size) (cwV 2 hts (kG (List.forall_mem_cons.mpr ⟨(List.mem_cons_of_mem _ (List.mem_append_left _ (List.mem_of_getElem? (i := 42) rfl))), (List.forall_mem_cons.mpr ⟨(List.mem_cons_of_mem _ (List.mem_append_left _ (List.mem_of_getElem? (i := 41) rfl))), (List.forall_mem_cons.mpr ⟨(List.mem_cons_of_mem _ (List.mem_append_left _ (List.mem_of_getElem? (i := 40) rfl))), (List.forall_mem_cons.mpr ⟨(List.mem_cons_of_mem _ (List.mem_append_left _ (List.mem_of_getElem? (i := 0) rfl))), (fun _ h => absurd h List.not_mem_nil)⟩)⟩)⟩)⟩) (kGV _ _ _ _) (kFam (List.mem_cons_of_mem _ (List.mem_append_left _ (List.mem_of_getElem? (i := 39) rfl)))) gw_s_truth4x_g_0) rfl rfl rfl ⟨rfl, hd_X4_readTruth⟩ ⟨(show (10 + 6 * (e1 + 1)) + 1 ≤ (11 + 6 * (e1 + 1)) from by omega), (show 8 + (4 + 11) + 60 * (10 + 6 * (e1 + 1)) ≤ 60 * (11 + 6 * (e1 + 1)) from by omega)⟩) (kW_V kS2_blind (kS2_give hX hS hFc) (va_recv hKc hPc (ci := 4) (q0 := 0) rfl rfl) hPc hKc hDc) rfl rfl hl.1 rfl (lv_room (Nat.le_of_ble_eq_true rfl)) dX4_readCondition_41 ⟨(Nat.le_of_ble_eq_true rfl), (Nat.le_of_ble_eq_true rfl)⟩) hS (fun q _ h => hFc q h) hFc (fun r_32 => kU5 (fun S1_33 Wr_34 Pn_35 xo_36 xl_37 t H_38 locs ht hvm hw hB hz1 hk1 hS => ?_))
            try dsimp only at hw
            have hPD : kPD dC dI A [(jR, .inr (4, [.ref jT, .ref r1, .ref r2, .int (nI (Wr_34)), .int (nI (fi)), .int (nI (Pn_35)), .ref q6, .ref q7])), (r1, .inl (c1, 120, .inl S1_33)), (r2, .inl (c2, 124, .inl s2)), (jT, .inr (8, [.ref t0, .int (nI (kt))])), (t0, .inl (cC, 120, .inl gT))] H_38 := kJoinX hP hD [0, 1, 2, 3, 4] rfl hk1 hFc hB.1 ht hB.2.2 rfl [some 0, some 1, some 2, some 3, some 4] rfl rfl
            have hP := hPD.1
            have hD := hPD.2
            have hw_39 := hw
            refine lv_if_eq (tgt := 57) hx hb dX4_readCondition_44 kc_t_44_13 (fun c_40 => ?_) (fun c_40 => ?_)
            · obtain rfl : xo_36 = false := kBo_f (kZr9 hw_39.1 c_40)
              have hw_39_k := hw_39.2.1.2.1
              refine lv_iconst (v := 0) hx hb dX4_readCondition_57 kc_i_0 ?_
              have hP9 := hP
              have hD9 := hD
              have hK9 := hK
              rw [hQ]
              exact W.zret (v := 0) hx hb hr rfl (fun t ht hW => ⟨⟨0, (S1_33, Wr_34, Pn_35, false, ([])), rfl, ⟨rfl, kPR_f (by rw [← ivk_11_3, show 120 - i = (119 - i) + 1 by omega]; exact kLoop_f (by rw [← hw_23_0]; omega) (by rw [← hw_23_1]; exact hw_39.2.1.1)) (by omega), by omega⟩,  by rw [ht]; exact hP9, va_K.moved hW.alike hK9, hD9⟩, hS.F ht⟩) hS.2.2 dX4_readCondition_58
            · obtain rfl : xo_36 = true := kBo_t (kNz9 hw_39.1 c_40)
              obtain ⟨hw_39_W, hw_39_S, hw_39_l, hw_39_p⟩ := hw_39.2.1.2.2 rfl
              have hw_39_k := hw_39.2.1.2.1
              refine lv_aload_n hx hb dX4_readCondition_47 rfl (lv_at hl 1 rfl) ?_
              refine lv_sipush (v := 20124) hx hb dX4_readCondition_48 kc_s_20124 ?_
              have bd_41 : Wr_34 ≤ 120 := by omega
              have bd_42 : Pn_35 ≤ kt := by omega
              have bd_43 : Wr_34 < 120 := by omega
              have hCu := kCut (wc := [(jR, .inr (4, [.ref jT, .ref r1, .ref r2, .int (nI (Wr_34)), .int (nI (fi)), .int (nI (Pn_35)), .ref q6, .ref q7])), (r1, .inl (c1, 120, .inl S1_33)), (r2, .inl (c2, 124, .inl s2)), (jT, .inr (8, [.ref t0, .int (nI (kt))])), (t0, .inl (cC, 120, .inl gT))]) hP hD hS hA [0, 1, 2, 3, 4] rfl kc_nd_311 rfl
              have hPc := hCu.1
              have hDc := hCu.2.1
              have hFc := hCu.2.2
              have hKc := hK.sb (tys2 := [(c1, .int), (c2, .int), (cC, .char)]) [0, 1, 2] rfl
              refine va_calli (va_runV (As := [.int 20124]) (rest := []) ⟨hx, hb, hml, hown, hts⟩ (s_write4x l dC dI jT t0 cC gT kt hkt hgT bt hbt hb8 jR r1 r2 c1 c2 S1_33 s2 Wr_34 fi q6 q7 bd_41 hfi Pn_35 bd_42 20124 bd_43 H_38.size) (cwV 1 hts (kG (List.forall_mem_cons.mpr ⟨(List.mem_cons_of_mem _ (List.mem_append_left _ (List.mem_of_getElem? (i := 14) rfl))), (List.forall_mem_cons.mpr ⟨(List.mem_cons_of_mem _ (List.mem_append_left _ (List.mem_of_getElem? (i := 13) rfl))), (List.forall_mem_cons.mpr ⟨(List.mem_cons_of_mem _ (List.mem_append_left _ (List.mem_of_getElem? (i := 12) rfl))), (List.forall_mem_cons.mpr ⟨(List.mem_cons_of_mem _ (List.mem_append_left _ (List.mem_of_getElem? (i := 0) rfl))), (fun _ h => absurd h List.not_mem_nil)⟩)⟩)⟩)⟩) (kGV _ _ _ _) (fun _ h => List.mem_cons_of_mem _ (List.mem_append_right _ (List.mem_append_right _ (List.mem_append_right _ (List.mem_append_right _ (List.mem_append_right _ (List.mem_append_left _ h))))))) gw_s_write4x) rfl rfl rfl ⟨rfl, hd_X4_write⟩ ⟨(show 1 + 1 ≤ (11 + 6 * (e1 + 1)) from by omega), (show 8 + (2 + 11) + 60 * 1 ≤ 60 * (11 + 6 * (e1 + 1)) from by omega)⟩) (kW_V kT_blind kT_give (va_recv hKc hPc (ci := 4) (q0 := 0) rfl rfl) hPc hKc hDc) rfl rfl hl.1 rfl (lv_room (Nat.le_of_ble_eq_true rfl)) dX4_readCondition_51 ⟨(Nat.le_of_ble_eq_true rfl), (Nat.le_of_ble_eq_true rfl)⟩) hS (fun q _ h => hFc q h) hFc (fun r_44 => kU2 (fun S1_45 Wr_46 t H_47 locs ht hvm hw hB hz1 hk1 hS => ?_))
              try dsimp only at hw
              have hPD : kPD dC dI A [(jR, .inr (4, [.ref jT, .ref r1, .ref r2, .int (nI (Wr_46)), .int (nI (fi)), .int (nI (Pn_35)), .ref q6, .ref q7])), (r1, .inl (c1, 120, .inl S1_45)), (r2, .inl (c2, 124, .inl s2)), (jT, .inr (8, [.ref t0, .int (nI (kt))])), (t0, .inl (cC, 120, .inl gT))] H_47 := kJoinX hP hD [0, 1, 2, 3, 4] rfl hk1 hFc hB.1 ht hB.2.2 rfl [some 0, some 1, some 2, some 3, some 4] rfl rfl
              have hP := hPD.1
              have hD := hPD.2
              obtain ⟨rfl, hw_48⟩ := hw
              refine lv_if_ne (tgt := 59) hx hb dX4_readCondition_54 kc_t_54_5 (fun c_49 => ?_) (fun c_49 => absurd c_49 (by decide))
              refine lv_iinc (v := nI (i + 1)) hx hb dX4_readCondition_59 hl (k := 0) rfl (kInc _ 1) kc_l_3_4 (kTo [(3, .int (nI (i + 1))), (0, .ref jR), (1, .int (nI (dd))), (2, .int 1)]) (fun ls hl => ?_)
              refine lv_goto (tgt := 13) hx hb dX4_readCondition_62 kc_t_62_m49 ?_
              exact ih_k_11 (i + 1) S1_45 Pn_35 Wr_46 (xl ++ xl_37 ++ [nI (20000 + 124)]) (by omega) (by omega) (by omega) (by have e9 := kLoop_t (b := bt) (n := kt) (c1 := 124) (c2 := 124) (a := kTruD bt kt g7 n7 (e1 + 1)) (f := 120 - (i + 1)) (p := xpn) (l := xl) (by rw [← hw_23_0]; omega) (by rw [← hw_23_1]; exact hw_39.2.1.1); rw [← hw_23_0] at e9; rw [show ch_21 = 124 by omega] at e9; rw [← e9, show (120 - (i + 1)) + 1 = 120 - i by omega]; exact ivk_11_3) (by simp only [List.length_append, List.length_cons, List.length_nil]; omega) (kWrt3 ivk_11_5 ivk_11_4 hw_39_S hw_39_W hw_48.2) (by simp only [List.length_append, List.length_cons, List.length_nil]; omega) (by omega) _ _ hP hD hS ls (lv_sub hl [0, 1, 2, 3] rfl) (by omega)
    exact lp_k_11 (120 - 0 + 1) 0 S1_3 Pn_5 Wr_4 xl_7 (by omega) (by omega) (by omega) (kMany_t hw_9.2.1.1).symm hw_9_W hw_9_S hw_9_l hw_9_p _ _ hP hD hS ls (lv_sub hl [0, 1, 2, 3] rfl) (by omega)
  · obtain rfl : xo_6 = false := kBo_f (kZr9 hw_9.1 c_10)
    have hw_9_k := hw_9.2.1.2.1
    refine lv_iconst (v := 0) hx hb dX4_readCondition_9 kc_i_0 ?_
    have hP9 := hP
    have hD9 := hD
    have hK9 := hK
    rw [hQ]
    exact W.zret (v := 0) hx hb hr rfl (fun t ht hW => ⟨⟨0, (S1_3, Wr_4, Pn_5, false, ([])), rfl, ⟨rfl, kPR_f (kMany_f hw_9.2.1.1) (by omega), by omega⟩,  by rw [ht]; exact hP9, va_K.moved hW.alike hK9, hD9⟩, hS.F ht⟩) hS.2.2 dX4_readCondition_10

set_option maxHeartbeats 4000000 in
set_option maxRecDepth 100000 in
theorem kIHq_all : ∀ n : Nat, n ≤ 6 → kIHq n := by
  intro n
  induction n with
  | zero =>
    intro _
    refine ⟨fun l dC dI jT t0 cC gT kt hkt hgT bt hbt hb8 jR r1 r2 c1 c2 s1 s2 wr fi q6 q7 hwr hfi pn hpn hwp b6 n6 g6 hn6 b7 n7 g7 hn7 gn6 hz6 gn7 hz7 dd hde sz => ?_, fun l dC dI jT t0 cC gT kt hkt hgT bt hbt hb8 jR r1 r2 c1 c2 s1 s2 wr fi q6 q7 hwr hfi pn hpn hwp b6 n6 g6 hn6 b7 n7 g7 hn7 gn6 hz6 gn7 hz7 dd hde sz => ?_, fun l dC dI jT t0 cC gT kt hkt hgT bt hbt hb8 jR r1 r2 c1 c2 s1 s2 wr fi q6 q7 hwr hfi pn hpn hwp b6 n6 g6 hn6 b7 n7 g7 hn7 gn6 hz6 gn7 hz7 dd hde sz => ?_⟩
    · obtain rfl : dd = 6 := by omega
      exact s_sum4x_6 l dC dI jT t0 cC gT kt hkt hgT bt hbt hb8 jR r1 r2 c1 c2 s1 s2 wr fi q6 q7 hwr hfi pn hpn hwp b6 n6 g6 hn6 b7 n7 g7 hn7 gn6 hz6 gn7 hz7 sz
    · obtain rfl : dd = 6 := by omega
      exact s_unit4x_6_0 l dC dI jT t0 cC gT kt hkt hgT bt hbt hb8 jR r1 r2 c1 c2 s1 s2 wr fi q6 q7 hwr hfi pn hpn hwp b6 n6 g6 hn6 b7 n7 g7 hn7 gn6 hz6 gn7 hz7 sz
    · obtain rfl : dd = 6 := by omega
      exact s_cond4x_6_0 l dC dI jT t0 cC gT kt hkt hgT bt hbt hb8 jR r1 r2 c1 c2 s1 s2 wr fi q6 q7 hwr hfi pn hpn hwp b6 n6 g6 hn6 b7 n7 g7 hn7 gn6 hz6 gn7 hz7 sz
  | succ n ih =>
    intro hn
    have ih := ih (by omega)
    exact ⟨fun l dC dI jT t0 cC gT kt hkt hgT bt hbt hb8 jR r1 r2 c1 c2 s1 s2 wr fi q6 q7 hwr hfi pn hpn hwp b6 n6 g6 hn6 b7 n7 g7 hn7 gn6 hz6 gn7 hz7 dd hde sz => s_sum4x_g l dC dI jT t0 cC gT kt hkt hgT bt hbt hb8 jR r1 r2 c1 c2 s1 s2 wr fi q6 q7 hwr hfi pn hpn hwp b6 n6 g6 hn6 b7 n7 g7 hn7 gn6 hz6 gn7 hz7 n dd (by omega) ih sz, fun l dC dI jT t0 cC gT kt hkt hgT bt hbt hb8 jR r1 r2 c1 c2 s1 s2 wr fi q6 q7 hwr hfi pn hpn hwp b6 n6 g6 hn6 b7 n7 g7 hn7 gn6 hz6 gn7 hz7 dd hde sz => s_unit4x_g_0 l dC dI jT t0 cC gT kt hkt hgT bt hbt hb8 jR r1 r2 c1 c2 s1 s2 wr fi q6 q7 hwr hfi pn hpn hwp b6 n6 g6 hn6 b7 n7 g7 hn7 gn6 hz6 gn7 hz7 n dd (by omega) ih sz, fun l dC dI jT t0 cC gT kt hkt hgT bt hbt hb8 jR r1 r2 c1 c2 s1 s2 wr fi q6 q7 hwr hfi pn hpn hwp b6 n6 g6 hn6 b7 n7 g7 hn7 gn6 hz6 gn7 hz7 dd hde sz => s_cond4x_g_0 l dC dI jT t0 cC gT kt hkt hgT bt hbt hb8 jR r1 r2 c1 c2 s1 s2 wr fi q6 q7 hwr hfi pn hpn hwp b6 n6 g6 hn6 b7 n7 g7 hn7 gn6 hz6 gn7 hz7 n dd (by omega) ih sz⟩

def w_s_sum4x_0 : List Cond := .code yX4_readSum cX4_readSum 4 (some .boolean) :: wf_rq
theorem gw_s_sum4x_0 : (w_s_sum4x_0).all goodWord = true := kFamG rfl gf_rq
set_option maxHeartbeats 4000000 in
set_option maxRecDepth 100000 in
theorem s_sum4x_0 (l : Launch) (dC : Nat → ClassId) (dI : Nat → Nat → Nat) (jT : Nat) (t0 : Nat) (cC : ClassId) (gT : Nat → Int32) (kt : Nat) (hkt : kt ≤ 120) (hgT : ∀ j : Nat, narrow .char (.int (gT j)) = .int (gT j)) (bt : Nat → Nat) (hbt : ∀ j : Nat, gT j = nI (bt j)) (hb8 : ∀ j : Nat, bt j < 256) (jR : Nat) (r1 : Nat) (r2 : Nat) (c1 : ClassId) (c2 : ClassId) (s1 : Nat → Int32) (s2 : Nat → Int32) (wr : Nat) (fi : Nat) (q6 : Nat) (q7 : Nat) (hwr : wr ≤ 120) (hfi : fi ≤ 124) (pn : Nat) (hpn : pn ≤ kt) (hwp : wr ≤ pn) (b6 : Nat) (n6 : Nat) (g6 : Nat → Int32) (hn6 : n6 ≤ 8) (b7 : Nat) (n7 : Nat) (g7 : Nat → Int32) (hn7 : n7 ≤ 8) (gn6 : ∀ k : Nat, ∃ v : Nat, v < 128 ∧ g6 k = nI v) (hz6 : kIx g6 n6 (nI 0) = n6) (gn7 : ∀ k : Nat, ∃ v : Nat, v < 128 ∧ g7 k = nI v) (hz7 : kIx g7 n7 (nI 0) = n7) (sz : Nat) : Met l yX4_readSum w_s_sum4x_0 ({ frames := 44, cells := 0, slots := 0, locals := 2640 }) (kW dC dI [.ref jR, .int 0] [(jR, .inr (4, [.ref jT, .ref r1, .ref r2, .int (nI (wr)), .int (nI (fi)), .int (nI (pn)), .ref q6, .ref q7])), (r1, .inl (c1, 120, .inl s1)), (r2, .inl (c2, 124, .inl s2)), (jT, .inr (8, [.ref t0, .int (nI (kt))])), (t0, .inl (cC, 120, .inl gT))] [(c1, .int), (c2, .int), (cC, .char)] (kS2 q6 b6 n6 g6 q7 b7 n7 g7 (va_A [(jR, .inr (4, [.ref jT, .ref r1, .ref r2, .int (nI (wr)), .int (nI (fi)), .int (nI (pn)), .ref q6, .ref q7])), (r1, .inl (c1, 120, .inl s1)), (r2, .inl (c2, 124, .inl s2)), (jT, .inr (8, [.ref t0, .int (nI (kt))])), (t0, .inl (cC, 120, .inl gT))] sz)) sz) (va_Qi (fun (r : Int32) (u : (Nat → Int32) × Nat × Nat × Bool × (List Int32)) => match u with | (S1, Wr, Pn, xo, xl) => (r = kBo xo ∧ kPR (kSumD bt kt g7 n7 6 pn) pn kt wr s1 xo Pn xl Wr S1 ∧ Wr ≤ 120)) (fun (u : (Nat → Int32) × Nat × Nat × Bool × (List Int32)) => match u with | (S1, Wr, Pn, xo, xl) => fun t : State => kB dC dI [(jR, .inr (4, [.ref jT, .ref r1, .ref r2, .int (nI (Wr)), .int (nI (fi)), .int (nI (Pn)), .ref q6, .ref q7])), (r1, .inl (c1, 120, .inl S1)), (r2, .inl (c2, 124, .inl s2)), (jT, .inr (8, [.ref t0, .int (nI (kt))])), (t0, .inl (cC, 120, .inl gT))] [(c1, .int), (c2, .int), (cC, .char)] (va_A [(jR, .inr (4, [.ref jT, .ref r1, .ref r2, .int (nI (wr)), .int (nI (fi)), .int (nI (pn)), .ref q6, .ref q7])), (r1, .inl (c1, 120, .inl s1)), (r2, .inl (c2, 124, .inl s2)), (jT, .inr (8, [.ref t0, .int (nI (kt))])), (t0, .inl (cC, 120, .inl gT))] sz) t) (va_A [(jR, .inr (4, [.ref jT, .ref r1, .ref r2, .int (nI (wr)), .int (nI (fi)), .int (nI (pn)), .ref q6, .ref q7])), (r1, .inl (c1, 120, .inl s1)), (r2, .inl (c2, 124, .inl s2)), (jT, .inr (8, [.ref t0, .int (nI (kt))])), (t0, .inl (cC, 120, .inl gT))] sz)) 0 0 (va_A [(jR, .inr (4, [.ref jT, .ref r1, .ref r2, .int (nI (wr)), .int (nI (fi)), .int (nI (pn)), .ref q6, .ref q7])), (r1, .inl (c1, 120, .inl s1)), (r2, .inl (c2, 124, .inl s2)), (jT, .inr (8, [.ref t0, .int (nI (kt))])), (t0, .inl (cC, 120, .inl gT))] sz) := by
  exact (kIHq_all 6 (by decide)).1 l dC dI jT t0 cC gT kt hkt hgT bt hbt hb8 jR r1 r2 c1 c2 s1 s2 wr fi q6 q7 hwr hfi pn hpn hwp b6 n6 g6 hn6 b7 n7 g7 hn7 gn6 hz6 gn7 hz7 0 rfl sz

def w_s_cond4x_0_0 : List Cond := .code yX4_readCondition cX4_readCondition 4 (some .boolean) :: wf_rq
theorem gw_s_cond4x_0_0 : (w_s_cond4x_0_0).all goodWord = true := kFamG rfl gf_rq
set_option maxHeartbeats 4000000 in
set_option maxRecDepth 100000 in
theorem s_cond4x_0_0 (l : Launch) (dC : Nat → ClassId) (dI : Nat → Nat → Nat) (jT : Nat) (t0 : Nat) (cC : ClassId) (gT : Nat → Int32) (kt : Nat) (hkt : kt ≤ 120) (hgT : ∀ j : Nat, narrow .char (.int (gT j)) = .int (gT j)) (bt : Nat → Nat) (hbt : ∀ j : Nat, gT j = nI (bt j)) (hb8 : ∀ j : Nat, bt j < 256) (jR : Nat) (r1 : Nat) (r2 : Nat) (c1 : ClassId) (c2 : ClassId) (s1 : Nat → Int32) (s2 : Nat → Int32) (wr : Nat) (fi : Nat) (q6 : Nat) (q7 : Nat) (hwr : wr ≤ 120) (hfi : fi ≤ 124) (pn : Nat) (hpn : pn ≤ kt) (hwp : wr ≤ pn) (b6 : Nat) (n6 : Nat) (g6 : Nat → Int32) (hn6 : n6 ≤ 8) (b7 : Nat) (n7 : Nat) (g7 : Nat → Int32) (hn7 : n7 ≤ 8) (gn6 : ∀ k : Nat, ∃ v : Nat, v < 128 ∧ g6 k = nI v) (hz6 : kIx g6 n6 (nI 0) = n6) (gn7 : ∀ k : Nat, ∃ v : Nat, v < 128 ∧ g7 k = nI v) (hz7 : kIx g7 n7 (nI 0) = n7) (sz : Nat) : Met l yX4_readCondition w_s_cond4x_0_0 ({ frames := 47, cells := 0, slots := 0, locals := 2820 }) (kW dC dI [.ref jR, .int 0, .int 0] [(jR, .inr (4, [.ref jT, .ref r1, .ref r2, .int (nI (wr)), .int (nI (fi)), .int (nI (pn)), .ref q6, .ref q7])), (r1, .inl (c1, 120, .inl s1)), (r2, .inl (c2, 124, .inl s2)), (jT, .inr (8, [.ref t0, .int (nI (kt))])), (t0, .inl (cC, 120, .inl gT))] [(c1, .int), (c2, .int), (cC, .char)] (kS2 q6 b6 n6 g6 q7 b7 n7 g7 (va_A [(jR, .inr (4, [.ref jT, .ref r1, .ref r2, .int (nI (wr)), .int (nI (fi)), .int (nI (pn)), .ref q6, .ref q7])), (r1, .inl (c1, 120, .inl s1)), (r2, .inl (c2, 124, .inl s2)), (jT, .inr (8, [.ref t0, .int (nI (kt))])), (t0, .inl (cC, 120, .inl gT))] sz)) sz) (va_Qi (fun (r : Int32) (u : (Nat → Int32) × Nat × Nat × Bool × (List Int32)) => match u with | (S1, Wr, Pn, xo, xl) => (r = kBo xo ∧ kPR (kConD bt kt g7 n7 6 pn) pn kt wr s1 xo Pn xl Wr S1 ∧ Wr ≤ 120)) (fun (u : (Nat → Int32) × Nat × Nat × Bool × (List Int32)) => match u with | (S1, Wr, Pn, xo, xl) => fun t : State => kB dC dI [(jR, .inr (4, [.ref jT, .ref r1, .ref r2, .int (nI (Wr)), .int (nI (fi)), .int (nI (Pn)), .ref q6, .ref q7])), (r1, .inl (c1, 120, .inl S1)), (r2, .inl (c2, 124, .inl s2)), (jT, .inr (8, [.ref t0, .int (nI (kt))])), (t0, .inl (cC, 120, .inl gT))] [(c1, .int), (c2, .int), (cC, .char)] (va_A [(jR, .inr (4, [.ref jT, .ref r1, .ref r2, .int (nI (wr)), .int (nI (fi)), .int (nI (pn)), .ref q6, .ref q7])), (r1, .inl (c1, 120, .inl s1)), (r2, .inl (c2, 124, .inl s2)), (jT, .inr (8, [.ref t0, .int (nI (kt))])), (t0, .inl (cC, 120, .inl gT))] sz) t) (va_A [(jR, .inr (4, [.ref jT, .ref r1, .ref r2, .int (nI (wr)), .int (nI (fi)), .int (nI (pn)), .ref q6, .ref q7])), (r1, .inl (c1, 120, .inl s1)), (r2, .inl (c2, 124, .inl s2)), (jT, .inr (8, [.ref t0, .int (nI (kt))])), (t0, .inl (cC, 120, .inl gT))] sz)) 0 0 (va_A [(jR, .inr (4, [.ref jT, .ref r1, .ref r2, .int (nI (wr)), .int (nI (fi)), .int (nI (pn)), .ref q6, .ref q7])), (r1, .inl (c1, 120, .inl s1)), (r2, .inl (c2, 124, .inl s2)), (jT, .inr (8, [.ref t0, .int (nI (kt))])), (t0, .inl (cC, 120, .inl gT))] sz) := by
  exact (kIHq_all 6 (by decide)).2.2 l dC dI jT t0 cC gT kt hkt hgT bt hbt hb8 jR r1 r2 c1 c2 s1 s2 wr fi q6 q7 hwr hfi pn hpn hwp b6 n6 g6 hn6 b7 n7 g7 hn7 gn6 hz6 gn7 hz7 0 rfl sz

def w_s_cond4x_0_1 : List Cond := .code yX4_readCondition cX4_readCondition 4 (some .boolean) :: wf_rq
theorem gw_s_cond4x_0_1 : (w_s_cond4x_0_1).all goodWord = true := kFamG rfl gf_rq
set_option maxHeartbeats 4000000 in
set_option maxRecDepth 100000 in
theorem s_cond4x_0_1 (l : Launch) (dC : Nat → ClassId) (dI : Nat → Nat → Nat) (jT : Nat) (t0 : Nat) (cC : ClassId) (gT : Nat → Int32) (kt : Nat) (hkt : kt ≤ 120) (hgT : ∀ j : Nat, narrow .char (.int (gT j)) = .int (gT j)) (bt : Nat → Nat) (hbt : ∀ j : Nat, gT j = nI (bt j)) (hb8 : ∀ j : Nat, bt j < 256) (jR : Nat) (r1 : Nat) (r2 : Nat) (c1 : ClassId) (c2 : ClassId) (s1 : Nat → Int32) (s2 : Nat → Int32) (wr : Nat) (fi : Nat) (q6 : Nat) (q7 : Nat) (hwr : wr ≤ 120) (hfi : fi ≤ 124) (pn : Nat) (hpn : pn ≤ kt) (hwp : wr ≤ pn) (b6 : Nat) (n6 : Nat) (g6 : Nat → Int32) (hn6 : n6 ≤ 8) (b7 : Nat) (n7 : Nat) (g7 : Nat → Int32) (hn7 : n7 ≤ 8) (gn6 : ∀ k : Nat, ∃ v : Nat, v < 128 ∧ g6 k = nI v) (hz6 : kIx g6 n6 (nI 0) = n6) (gn7 : ∀ k : Nat, ∃ v : Nat, v < 128 ∧ g7 k = nI v) (hz7 : kIx g7 n7 (nI 0) = n7) (sz : Nat) : Met l yX4_readCondition w_s_cond4x_0_1 ({ frames := 47, cells := 0, slots := 0, locals := 2820 }) (kW dC dI [.ref jR, .int 0, .int 1] [(jR, .inr (4, [.ref jT, .ref r1, .ref r2, .int (nI (wr)), .int (nI (fi)), .int (nI (pn)), .ref q6, .ref q7])), (r1, .inl (c1, 120, .inl s1)), (r2, .inl (c2, 124, .inl s2)), (jT, .inr (8, [.ref t0, .int (nI (kt))])), (t0, .inl (cC, 120, .inl gT))] [(c1, .int), (c2, .int), (cC, .char)] (kS2 q6 b6 n6 g6 q7 b7 n7 g7 (va_A [(jR, .inr (4, [.ref jT, .ref r1, .ref r2, .int (nI (wr)), .int (nI (fi)), .int (nI (pn)), .ref q6, .ref q7])), (r1, .inl (c1, 120, .inl s1)), (r2, .inl (c2, 124, .inl s2)), (jT, .inr (8, [.ref t0, .int (nI (kt))])), (t0, .inl (cC, 120, .inl gT))] sz)) sz) (va_Qi (fun (r : Int32) (u : (Nat → Int32) × Nat × Nat × Bool × (List Int32)) => match u with | (S1, Wr, Pn, xo, xl) => (r = kBo xo ∧ kPR (kConZ bt kt g7 n7 6 pn) pn kt wr s1 xo Pn xl Wr S1 ∧ Wr ≤ 120)) (fun (u : (Nat → Int32) × Nat × Nat × Bool × (List Int32)) => match u with | (S1, Wr, Pn, xo, xl) => fun t : State => kB dC dI [(jR, .inr (4, [.ref jT, .ref r1, .ref r2, .int (nI (Wr)), .int (nI (fi)), .int (nI (Pn)), .ref q6, .ref q7])), (r1, .inl (c1, 120, .inl S1)), (r2, .inl (c2, 124, .inl s2)), (jT, .inr (8, [.ref t0, .int (nI (kt))])), (t0, .inl (cC, 120, .inl gT))] [(c1, .int), (c2, .int), (cC, .char)] (va_A [(jR, .inr (4, [.ref jT, .ref r1, .ref r2, .int (nI (wr)), .int (nI (fi)), .int (nI (pn)), .ref q6, .ref q7])), (r1, .inl (c1, 120, .inl s1)), (r2, .inl (c2, 124, .inl s2)), (jT, .inr (8, [.ref t0, .int (nI (kt))])), (t0, .inl (cC, 120, .inl gT))] sz) t) (va_A [(jR, .inr (4, [.ref jT, .ref r1, .ref r2, .int (nI (wr)), .int (nI (fi)), .int (nI (pn)), .ref q6, .ref q7])), (r1, .inl (c1, 120, .inl s1)), (r2, .inl (c2, 124, .inl s2)), (jT, .inr (8, [.ref t0, .int (nI (kt))])), (t0, .inl (cC, 120, .inl gT))] sz)) 0 0 (va_A [(jR, .inr (4, [.ref jT, .ref r1, .ref r2, .int (nI (wr)), .int (nI (fi)), .int (nI (pn)), .ref q6, .ref q7])), (r1, .inl (c1, 120, .inl s1)), (r2, .inl (c2, 124, .inl s2)), (jT, .inr (8, [.ref t0, .int (nI (kt))])), (t0, .inl (cC, 120, .inl gT))] sz) := by
  exact s_cond4x_g_1 l dC dI jT t0 cC gT kt hkt hgT bt hbt hb8 jR r1 r2 c1 c2 s1 s2 wr fi q6 q7 hwr hfi pn hpn hwp b6 n6 g6 hn6 b7 n7 g7 hn7 gn6 hz6 gn7 hz7 5 0 rfl (kIHq_all 5 (by decide)) sz

theorem dX4_readClause_0 : decode cX4_readClause 0 = .ok (.aload_n 0, 1) := kDs0 kf_42 (by decide +kernel)
theorem dX4_readClause_1 : decode cX4_readClause 1 = .ok (.getfield 30, 3) := kDs2 kf_180 (by decide +kernel)
theorem dX4_readClause_4 : decode cX4_readClause 4 = .ok (.aload_n 0, 1) := kDs0 kf_42 (by decide +kernel)
theorem dX4_readClause_5 : decode cX4_readClause 5 = .ok (.invokevirtual 53, 3) := kDs2 kf_182 (by decide +kernel)
theorem dX4_readClause_8 : decode cX4_readClause 8 = .ok (.invokevirtual 72, 3) := kDs2 kf_182 (by decide +kernel)
theorem dX4_readClause_11 : decode cX4_readClause 11 = .ok (.istore_n 1, 1) := kDs0 kf_60 (by decide +kernel)
theorem dX4_readClause_12 : decode cX4_readClause 12 = .ok (.iload_n 1, 1) := kDs0 kf_27 (by decide +kernel)
theorem dX4_readClause_13 : decode cX4_readClause 13 = .ok (.ifCond .ge 5, 3) := kDs4 kf_156 (by decide +kernel)
theorem dX4_readClause_16 : decode cX4_readClause 16 = .ok (.iconst 0, 1) := kDs0 kf_3 (by decide +kernel)
theorem dX4_readClause_17 : decode cX4_readClause 17 = .ok (.ireturn, 1) := kDs0 kf_172 (by decide +kernel)
theorem dX4_readClause_18 : decode cX4_readClause 18 = .ok (.aload_n 0, 1) := kDs0 kf_42 (by decide +kernel)
theorem dX4_readClause_19 : decode cX4_readClause 19 = .ok (.dup, 1) := kDs0 kf_89 (by decide +kernel)
theorem dX4_readClause_20 : decode cX4_readClause 20 = .ok (.getfield 25, 3) := kDs2 kf_180 (by decide +kernel)
theorem dX4_readClause_23 : decode cX4_readClause 23 = .ok (.iconst 1, 1) := kDs0 kf_4 (by decide +kernel)
theorem dX4_readClause_24 : decode cX4_readClause 24 = .ok (.iadd, 1) := kDs0 kf_96 (by decide +kernel)
theorem dX4_readClause_25 : decode cX4_readClause 25 = .ok (.putfield 25, 3) := kDs2 kf_181 (by decide +kernel)
theorem dX4_readClause_28 : decode cX4_readClause 28 = .ok (.aload_n 0, 1) := kDs0 kf_42 (by decide +kernel)
theorem dX4_readClause_29 : decode cX4_readClause 29 = .ok (.bipush 58, 2) := kDs3 kf_16 (by decide +kernel)
theorem dX4_readClause_31 : decode cX4_readClause 31 = .ok (.invokevirtual 57, 3) := kDs2 kf_182 (by decide +kernel)
theorem dX4_readClause_34 : decode cX4_readClause 34 = .ok (.ifCond .ne 5, 3) := kDs4 kf_154 (by decide +kernel)
theorem dX4_readClause_39 : decode cX4_readClause 39 = .ok (.aload_n 0, 1) := kDs0 kf_42 (by decide +kernel)
theorem dX4_readClause_40 : decode cX4_readClause 40 = .ok (.getfield 18, 3) := kDs2 kf_180 (by decide +kernel)
theorem dX4_readClause_43 : decode cX4_readClause 43 = .ok (.istore_n 2, 1) := kDs0 kf_61 (by decide +kernel)
theorem dX4_readClause_44 : decode cX4_readClause 44 = .ok (.aload_n 0, 1) := kDs0 kf_42 (by decide +kernel)
theorem dX4_readClause_45 : decode cX4_readClause 45 = .ok (.invokevirtual 53, 3) := kDs2 kf_182 (by decide +kernel)
theorem dX4_readClause_48 : decode cX4_readClause 48 = .ok (.bipush 33, 2) := kDs3 kf_16 (by decide +kernel)
theorem dX4_readClause_50 : decode cX4_readClause 50 = .ok (.if_icmp .eq 12, 3) := kDs4 kf_159 (by decide +kernel)
theorem dX4_readClause_62 : decode cX4_readClause 62 = .ok (.iconst 1, 1) := kDs0 kf_4 (by decide +kernel)
theorem dX4_readClause_63 : decode cX4_readClause 63 = .ok (.goto 4, 3) := kDs4 kf_167 (by decide +kernel)
theorem dX4_readClause_67 : decode cX4_readClause 67 = .ok (.istore_n 3, 1) := kDs0 kf_62 (by decide +kernel)
theorem dX4_readClause_68 : decode cX4_readClause 68 = .ok (.iload_n 3, 1) := kDs0 kf_29 (by decide +kernel)
theorem dX4_readClause_69 : decode cX4_readClause 69 = .ok (.ifCond .ne 31, 3) := kDs4 kf_154 (by decide +kernel)
theorem dX4_readClause_100 : decode cX4_readClause 100 = .ok (.aload_n 0, 1) := kDs0 kf_42 (by decide +kernel)
theorem dX4_readClause_101 : decode cX4_readClause 101 = .ok (.iconst 0, 1) := kDs0 kf_3 (by decide +kernel)
theorem dX4_readClause_102 : decode cX4_readClause 102 = .ok (.iload_n 3, 1) := kDs0 kf_29 (by decide +kernel)
theorem dX4_readClause_103 : decode cX4_readClause 103 = .ok (.ifCond .ne 7, 3) := kDs4 kf_154 (by decide +kernel)
theorem dX4_readClause_110 : decode cX4_readClause 110 = .ok (.iconst 0, 1) := kDs0 kf_3 (by decide +kernel)
theorem dX4_readClause_111 : decode cX4_readClause 111 = .ok (.invokevirtual 89, 3) := kDs2 kf_182 (by decide +kernel)
theorem dX4_readClause_114 : decode cX4_readClause 114 = .ok (.ifCond .ne 5, 3) := kDs4 kf_154 (by decide +kernel)
theorem dX4_readClause_119 : decode cX4_readClause 119 = .ok (.aload_n 0, 1) := kDs0 kf_42 (by decide +kernel)
theorem dX4_readClause_120 : decode cX4_readClause 120 = .ok (.getfield 18, 3) := kDs2 kf_180 (by decide +kernel)
theorem dX4_readClause_123 : decode cX4_readClause 123 = .ok (.istore 4, 2) := kDs1 kf_54 (by decide +kernel)
theorem dX4_readClause_125 : decode cX4_readClause 125 = .ok (.aload_n 0, 1) := kDs0 kf_42 (by decide +kernel)
theorem dX4_readClause_126 : decode cX4_readClause 126 = .ok (.bipush 63, 2) := kDs3 kf_16 (by decide +kernel)
theorem dX4_readClause_128 : decode cX4_readClause 128 = .ok (.invokevirtual 57, 3) := kDs2 kf_182 (by decide +kernel)
theorem dX4_readClause_131 : decode cX4_readClause 131 = .ok (.ifCond .eq 26, 3) := kDs4 kf_153 (by decide +kernel)
theorem dX4_readClause_157 : decode cX4_readClause 157 = .ok (.iconst 0, 1) := kDs0 kf_3 (by decide +kernel)
theorem dX4_readClause_158 : decode cX4_readClause 158 = .ok (.ireturn, 1) := kDs0 kf_172 (by decide +kernel)
theorem dX4_readClause_134 : decode cX4_readClause 134 = .ok (.aload_n 0, 1) := kDs0 kf_42 (by decide +kernel)
theorem dX4_readClause_135 : decode cX4_readClause 135 = .ok (.iconst 0, 1) := kDs0 kf_3 (by decide +kernel)
theorem dX4_readClause_136 : decode cX4_readClause 136 = .ok (.invokevirtual 78, 3) := kDs2 kf_182 (by decide +kernel)
theorem dX4_readClause_139 : decode cX4_readClause 139 = .ok (.ifCond .eq 18, 3) := kDs4 kf_153 (by decide +kernel)
theorem dX4_readClause_142 : decode cX4_readClause 142 = .ok (.aload_n 0, 1) := kDs0 kf_42 (by decide +kernel)
theorem dX4_readClause_143 : decode cX4_readClause 143 = .ok (.iload_n 1, 1) := kDs0 kf_27 (by decide +kernel)
theorem dX4_readClause_144 : decode cX4_readClause 144 = .ok (.iload_n 2, 1) := kDs0 kf_28 (by decide +kernel)
theorem dX4_readClause_145 : decode cX4_readClause 145 = .ok (.iload 4, 2) := kDs1 kf_21 (by decide +kernel)
theorem dX4_readClause_147 : decode cX4_readClause 147 = .ok (.invokevirtual 85, 3) := kDs2 kf_182 (by decide +kernel)
theorem dX4_readClause_150 : decode cX4_readClause 150 = .ok (.ifCond .eq 7, 3) := kDs4 kf_153 (by decide +kernel)
theorem dX4_readClause_153 : decode cX4_readClause 153 = .ok (.iconst 1, 1) := kDs0 kf_4 (by decide +kernel)
theorem dX4_readClause_154 : decode cX4_readClause 154 = .ok (.goto 4, 3) := kDs4 kf_167 (by decide +kernel)
theorem dX4_readClause_117 : decode cX4_readClause 117 = .ok (.iconst 0, 1) := kDs0 kf_3 (by decide +kernel)
theorem dX4_readClause_118 : decode cX4_readClause 118 = .ok (.ireturn, 1) := kDs0 kf_172 (by decide +kernel)
theorem dX4_readClause_53 : decode cX4_readClause 53 = .ok (.aload_n 0, 1) := kDs0 kf_42 (by decide +kernel)
theorem dX4_readClause_54 : decode cX4_readClause 54 = .ok (.invokevirtual 53, 3) := kDs2 kf_182 (by decide +kernel)
theorem dX4_readClause_57 : decode cX4_readClause 57 = .ok (.bipush 40, 2) := kDs3 kf_16 (by decide +kernel)
theorem dX4_readClause_59 : decode cX4_readClause 59 = .ok (.if_icmp .ne 7, 3) := kDs4 kf_160 (by decide +kernel)
theorem dX4_readClause_66 : decode cX4_readClause 66 = .ok (.iconst 0, 1) := kDs0 kf_3 (by decide +kernel)
theorem dX4_readClause_72 : decode cX4_readClause 72 = .ok (.aload_n 0, 1) := kDs0 kf_42 (by decide +kernel)
theorem dX4_readClause_73 : decode cX4_readClause 73 = .ok (.iconst 0, 1) := kDs0 kf_3 (by decide +kernel)
theorem dX4_readClause_74 : decode cX4_readClause 74 = .ok (.invokevirtual 78, 3) := kDs2 kf_182 (by decide +kernel)
theorem dX4_readClause_77 : decode cX4_readClause 77 = .ok (.ifCond .ne 5, 3) := kDs4 kf_154 (by decide +kernel)
theorem dX4_readClause_82 : decode cX4_readClause 82 = .ok (.aload_n 0, 1) := kDs0 kf_42 (by decide +kernel)
theorem dX4_readClause_83 : decode cX4_readClause 83 = .ok (.invokevirtual 53, 3) := kDs2 kf_182 (by decide +kernel)
theorem dX4_readClause_86 : decode cX4_readClause 86 = .ok (.invokestatic 82, 3) := kDs2 kf_184 (by decide +kernel)
theorem dX4_readClause_89 : decode cX4_readClause 89 = .ok (.ifCond .ne 11, 3) := kDs4 kf_154 (by decide +kernel)
theorem dX4_readClause_106 : decode cX4_readClause 106 = .ok (.iconst 1, 1) := kDs0 kf_4 (by decide +kernel)
theorem dX4_readClause_107 : decode cX4_readClause 107 = .ok (.goto 4, 3) := kDs4 kf_167 (by decide +kernel)
theorem dX4_readClause_92 : decode cX4_readClause 92 = .ok (.aload_n 0, 1) := kDs0 kf_42 (by decide +kernel)
theorem dX4_readClause_93 : decode cX4_readClause 93 = .ok (.iload_n 1, 1) := kDs0 kf_27 (by decide +kernel)
theorem dX4_readClause_94 : decode cX4_readClause 94 = .ok (.iload_n 2, 1) := kDs0 kf_28 (by decide +kernel)
theorem dX4_readClause_95 : decode cX4_readClause 95 = .ok (.iload_n 2, 1) := kDs0 kf_28 (by decide +kernel)
theorem dX4_readClause_96 : decode cX4_readClause 96 = .ok (.invokevirtual 85, 3) := kDs2 kf_182 (by decide +kernel)
theorem dX4_readClause_99 : decode cX4_readClause 99 = .ok (.ireturn, 1) := kDs0 kf_172 (by decide +kernel)
theorem dX4_readClause_80 : decode cX4_readClause 80 = .ok (.iconst 0, 1) := kDs0 kf_3 (by decide +kernel)
theorem dX4_readClause_81 : decode cX4_readClause 81 = .ok (.ireturn, 1) := kDs0 kf_172 (by decide +kernel)
theorem dX4_readClause_37 : decode cX4_readClause 37 = .ok (.iconst 0, 1) := kDs0 kf_3 (by decide +kernel)
theorem dX4_readClause_38 : decode cX4_readClause 38 = .ok (.ireturn, 1) := kDs0 kf_172 (by decide +kernel)
def w_s_clause4x : List Cond := .code yX4_readClause cX4_readClause 5 (some .boolean) :: wf_rq
theorem gw_s_clause4x : (w_s_clause4x).all goodWord = true := kFamG rfl gf_rq
theorem hd_X4_readClause : yX4_readClause.cls ≠ "java/lang/invoke/MethodHandle" ∧ yX4_readClause.cls ≠ "java/lang/invoke/VarHandle" ∧ (parseMethodDescriptor yX4_readClause.desc).map (fun d => d.parameters.length) = some 0 := by decide +kernel
set_option maxHeartbeats 4000000 in
set_option maxRecDepth 100000 in
theorem s_clause4x (l : Launch) (dC : Nat → ClassId) (dI : Nat → Nat → Nat) (jT : Nat) (t0 : Nat) (cC : ClassId) (gT : Nat → Int32) (kt : Nat) (hkt : kt ≤ 120) (hgT : ∀ j : Nat, narrow .char (.int (gT j)) = .int (gT j)) (bt : Nat → Nat) (hbt : ∀ j : Nat, gT j = nI (bt j)) (hb8 : ∀ j : Nat, bt j < 256) (jR : Nat) (r1 : Nat) (r2 : Nat) (c1 : ClassId) (c2 : ClassId) (s1 : Nat → Int32) (s2 : Nat → Int32) (wr : Nat) (fi : Nat) (q6 : Nat) (q7 : Nat) (hwr : wr ≤ 120) (hfi : fi ≤ 124) (pn : Nat) (hpn : pn ≤ kt) (hwp : wr ≤ pn) (b6 : Nat) (n6 : Nat) (g6 : Nat → Int32) (hn6 : n6 ≤ 8) (b7 : Nat) (n7 : Nat) (g7 : Nat → Int32) (hn7 : n7 ≤ 8) (gn6 : ∀ k : Nat, ∃ v : Nat, v < 128 ∧ g6 k = nI v) (hz6 : kIx g6 n6 (nI 0) = n6) (gn7 : ∀ k : Nat, ∃ v : Nat, v < 128 ∧ g7 k = nI v) (hz7 : kIx g7 n7 (nI 0) = n7) (hf9 : fi ≤ 120) (sz : Nat) : Met l yX4_readClause w_s_clause4x ({ frames := 48, cells := 0, slots := 0, locals := 2880 }) (kW dC dI [.ref jR] [(jR, .inr (4, [.ref jT, .ref r1, .ref r2, .int (nI (wr)), .int (nI (fi)), .int (nI (pn)), .ref q6, .ref q7])), (r1, .inl (c1, 120, .inl s1)), (r2, .inl (c2, 124, .inl s2)), (jT, .inr (8, [.ref t0, .int (nI (kt))])), (t0, .inl (cC, 120, .inl gT))] [(c1, .int), (c2, .int), (cC, .char)] (kS2 q6 b6 n6 g6 q7 b7 n7 g7 (va_A [(jR, .inr (4, [.ref jT, .ref r1, .ref r2, .int (nI (wr)), .int (nI (fi)), .int (nI (pn)), .ref q6, .ref q7])), (r1, .inl (c1, 120, .inl s1)), (r2, .inl (c2, 124, .inl s2)), (jT, .inr (8, [.ref t0, .int (nI (kt))])), (t0, .inl (cC, 120, .inl gT))] sz)) sz) (va_Qi (fun (r : Int32) (u : (Nat → Int32) × (Nat → Int32) × Nat × Nat × Nat × Bool × (List Int32) × Nat × Nat) => match u with | (S1, S2, Wr, Fi, Pn, xo, xl, xj, xk) => (r = kBo xo ∧ kCla bt kt g6 n6 g7 n7 pn = (xo, Pn, xl, xj, xk) ∧ Pn ≤ kt ∧ Wr ≤ 120 ∧ Fi ≤ 124 ∧ (xo = true → Wr = wr + xl.length ∧ S1 = kWrt s1 wr xl ∧ Fi = fi + 4 ∧ S2 = kWrt s2 fi [nI xj, nI wr, nI (wr + xk), nI (wr + xl.length)] ∧ pn + xl.length ≤ Pn ∧ pn + 3 ≤ Pn))) (fun (u : (Nat → Int32) × (Nat → Int32) × Nat × Nat × Nat × Bool × (List Int32) × Nat × Nat) => match u with | (S1, S2, Wr, Fi, Pn, xo, xl, xj, xk) => fun t : State => kB dC dI [(jR, .inr (4, [.ref jT, .ref r1, .ref r2, .int (nI (Wr)), .int (nI (Fi)), .int (nI (Pn)), .ref q6, .ref q7])), (r1, .inl (c1, 120, .inl S1)), (r2, .inl (c2, 124, .inl S2)), (jT, .inr (8, [.ref t0, .int (nI (kt))])), (t0, .inl (cC, 120, .inl gT))] [(c1, .int), (c2, .int), (cC, .char)] (va_A [(jR, .inr (4, [.ref jT, .ref r1, .ref r2, .int (nI (wr)), .int (nI (fi)), .int (nI (pn)), .ref q6, .ref q7])), (r1, .inl (c1, 120, .inl s1)), (r2, .inl (c2, 124, .inl s2)), (jT, .inr (8, [.ref t0, .int (nI (kt))])), (t0, .inl (cC, 120, .inl gT))] sz) t) (va_A [(jR, .inr (4, [.ref jT, .ref r1, .ref r2, .int (nI (wr)), .int (nI (fi)), .int (nI (pn)), .ref q6, .ref q7])), (r1, .inl (c1, 120, .inl s1)), (r2, .inl (c2, 124, .inl s2)), (jT, .inr (8, [.ref t0, .int (nI (kt))])), (t0, .inl (cC, 120, .inl gT))] sz)) 0 0 (va_A [(jR, .inr (4, [.ref jT, .ref r1, .ref r2, .int (nI (wr)), .int (nI (fi)), .int (nI (pn)), .ref q6, .ref q7])), (r1, .inl (c1, 120, .inl s1)), (r2, .inl (c2, 124, .inl s2)), (jT, .inr (8, [.ref t0, .int (nI (kt))])), (t0, .inl (cC, 120, .inl gT))] sz) := by
  refine Met.ofW (cc := cX4_readClause) (maxL := 5) (ret := (some .boolean)) (by decide) rfl ?_
  intro p e s m args below meth c s₁ B hml hv
  obtain ⟨rfl, hsz, hP, hK, hD0, hX⟩ := hv
  have hx := B.exec
  have hb := B.bytes
  have hr := B.returns
  have hts := atoms_spec (ws := w_s_clause4x) B.pre
  have hown : s.vm.findClass RX4 = some m.cls := findClass_of_methodNamed B.named
  have hlocks := B.notSynchronized
  subst hsz
  have hD := hD0.self (sz := s.heap.size)
  generalize hAe : va_A [(jR, .inr (4, [.ref jT, .ref r1, .ref r2, .int (nI (wr)), .int (nI (fi)), .int (nI (pn)), .ref q6, .ref q7])), (r1, .inl (c1, 120, .inl s1)), (r2, .inl (c2, 124, .inl s2)), (jT, .inr (8, [.ref t0, .int (nI (kt))])), (t0, .inl (cC, 120, .inl gT))] s.heap.size = A at hD hX ⊢
  have hA : ∀ q : Nat, s.heap.size ≤ q → A q := fun q h => by rw [← hAe]; exact Or.inr h
  have hS : va_S A s.heap s.heap [] := va_S.rf
  have hP : va_P (dC, dI) vwCl [(jR, .inr (4, [.ref jT, .ref r1, .ref r2, .int (nI (wr)), .int (nI (fi)), .int (nI (pn)), .ref q6, .ref q7])), (r1, .inl (c1, 120, .inl s1)), (r2, .inl (c2, 124, .inl s2)), (jT, .inr (8, [.ref t0, .int (nI (kt))])), (t0, .inl (cC, 120, .inl gT))] s.heap := hP
  have hl := lv_entry ([.ref jR]) (n := 5) (Nat.le_of_ble_eq_true rfl)
  rw [lg_entry_eq]
  generalize (lg_sl ([.ref jR]) ++ List.replicate (5 - (lg_sl ([.ref jR])).length) Slot.unset).toArray = ls at hl ⊢
  have hl : lv_has ls 5 [(0, .ref jR)] := hl
  refine kQ (fun Q hQ => ?_)
  refine lv_aload_n hx hb dX4_readClause_0 rfl (lv_at hl 0 rfl) ?_
  refine va_get (D := (dC, dI)) (ci := 4) (v := .ref q6) (C := RX4) (T := TX4) (N := 8) hx hb hts (fun _ h => List.mem_cons_of_mem _ (List.mem_append_right _ (List.mem_append_right _ (List.mem_append_right _ (List.mem_append_left _ h))))) hown hK hP 0 rfl rfl 6 kc_l_6_8 (hts (.fieldLink RX4 30 "NotEnded$Reader" "labelSigns" "Ljava/lang/String;") (List.mem_cons_of_mem _ (List.mem_append_left _ (List.mem_of_getElem? (i := 50) rfl)))) (fun _ h9 => h9) rfl dX4_readClause_1 ?_
  refine lv_aload_n hx hb dX4_readClause_4 rfl (lv_at hl 0 rfl) ?_
  have hCu := kCut (wc := [(jR, .inr (4, [.ref jT, .ref r1, .ref r2, .int (nI (wr)), .int (nI (fi)), .int (nI (pn)), .ref q6, .ref q7])), (r1, .inl (c1, 120, .inl s1)), (r2, .inl (c2, 124, .inl s2)), (jT, .inr (8, [.ref t0, .int (nI (kt))])), (t0, .inl (cC, 120, .inl gT))]) hP hD hS hA [0, 1, 2, 3, 4] rfl kc_nd_311 rfl
  have hPc := hCu.1
  have hDc := hCu.2.1
  have hFc := hCu.2.2
  have hKc := hK.sb (tys2 := [(c1, .int), (c2, .int), (cC, .char)]) [0, 1, 2] rfl
  refine va_calli (va_runV (As := []) (rest := [.ref q6]) ⟨hx, hb, hml, hown, hts⟩ (s_look4x l dC dI jT t0 cC gT kt hkt hgT bt hbt hb8 jR r1 r2 c1 c2 s1 s2 wr fi q6 q7 hwr hfi pn hpn s.heap.size) (cwV 0 hts (kG (List.forall_mem_cons.mpr ⟨(List.mem_cons_of_mem _ (List.mem_append_left _ (List.mem_of_getElem? (i := 3) rfl))), (List.forall_mem_cons.mpr ⟨(List.mem_cons_of_mem _ (List.mem_append_left _ (List.mem_of_getElem? (i := 2) rfl))), (List.forall_mem_cons.mpr ⟨(List.mem_cons_of_mem _ (List.mem_append_left _ (List.mem_of_getElem? (i := 1) rfl))), (List.forall_mem_cons.mpr ⟨(List.mem_cons_of_mem _ (List.mem_append_left _ (List.mem_of_getElem? (i := 0) rfl))), (fun _ h => absurd h List.not_mem_nil)⟩)⟩)⟩)⟩) (kGV _ _ _ _) (fun _ h => List.mem_cons_of_mem _ (List.mem_append_right _ (List.mem_append_left _ h))) gw_s_look4x) rfl rfl rfl ⟨rfl, hd_X4_look⟩ ⟨(Nat.le_of_ble_eq_true rfl), (Nat.le_of_ble_eq_true rfl)⟩) (kW_V kT_blind kT_give (va_recv hKc hPc (ci := 4) (q0 := 0) rfl rfl) hPc hKc hDc) rfl rfl hl.1 rfl (lv_room (Nat.le_of_ble_eq_true rfl)) dX4_readClause_5 ⟨(Nat.le_of_ble_eq_true rfl), (Nat.le_of_ble_eq_true rfl)⟩) hS (fun q _ h => hFc q h) hFc (fun r_1 => kU2 (fun Pn_2 ch_3 t H_4 locs ht hvm hw hB hz1 hk1 hS => ?_))
  try dsimp only at hw
  have hPD : kPD dC dI A [(jR, .inr (4, [.ref jT, .ref r1, .ref r2, .int (nI (wr)), .int (nI (fi)), .int (nI (Pn_2)), .ref q6, .ref q7])), (r1, .inl (c1, 120, .inl s1)), (r2, .inl (c2, 124, .inl s2)), (jT, .inr (8, [.ref t0, .int (nI (kt))])), (t0, .inl (cC, 120, .inl gT))] H_4 := kJoinX hP hD [0, 1, 2, 3, 4] rfl hk1 hFc hB.1 ht hB.2.2 rfl [some 0, some 1, some 2, some 3, some 4] rfl rfl
  have hP := hPD.1
  have hD := hPD.2
  obtain ⟨rfl, hw_5_0, hw_5_1, hw_5_2, hw_5_3, hw_5_4, hw_5_5, hw_5_6⟩ := hw
  have bd_6 : ch_3 < 256 := by omega
  have hPc := hP.sb (ws2 := []) [] rfl
  have hKc := hK.sb (tys2 := []) [] rfl
  refine vp_callSi (va_runV (As := [.int (nI (ch_3))]) (rest := []) ⟨hx, hb, hml, hown, hts⟩ (s_t_ixx l dC dI q6 b6 n6 g6 hn6 A gn6 ch_3 bd_6) (cwV 1 hts (kG (List.forall_mem_cons.mpr ⟨(List.mem_cons_of_mem _ (List.mem_append_left _ (List.mem_of_getElem? (i := 10) rfl))), (List.forall_mem_cons.mpr ⟨(List.mem_cons_of_mem _ (List.mem_append_left _ (List.mem_of_getElem? (i := 9) rfl))), (List.forall_mem_cons.mpr ⟨(List.mem_cons_of_mem _ (List.mem_append_left _ (List.mem_of_getElem? (i := 8) rfl))), (List.forall_mem_cons.mpr ⟨(List.mem_cons_of_mem _ (List.mem_append_left _ (List.mem_of_getElem? (i := 7) rfl))), (fun _ h => absurd h List.not_mem_nil)⟩)⟩)⟩)⟩) (kGV _ _ _ _) (fun _ h => List.mem_cons_of_mem _ (List.mem_append_right _ (List.mem_append_right _ (List.mem_append_right _ (List.mem_append_right _ (List.mem_append_left _ h)))))) gw_s_t_ixx) rfl rfl rfl ⟨rfl, hd_J0_indexOf_0f7a4⟩ ⟨(Nat.le_of_ble_eq_true rfl), (Nat.le_of_ble_eq_true rfl)⟩) (kR_V kSt_blind (kSt_give hX.1 hS) (kSt_recv hX.1 hS) hPc hKc) rfl rfl hl.1 rfl (lv_room (Nat.le_of_ble_eq_true rfl)) dX4_readClause_8 ⟨(Nat.le_of_ble_eq_true rfl), (Nat.le_of_ble_eq_true rfl)⟩).run (fun r_7 hw => ?_)
  have hw_8 := hw
  rcases hw_8 with ⟨rfl, hj_10⟩ | ⟨j_9, hj_10_1, rfl, hj_10⟩
  · refine lv_istore_n hx hb dX4_readClause_11 rfl hl kc_l_1_5 (kTo [(1, .int (-1)), (0, .ref jR)]) (fun ls hl => ?_)
    refine lv_iload_n hx hb dX4_readClause_12 rfl (lv_at hl 0 rfl) ?_
    refine lv_if_ge (tgt := 18) hx hb dX4_readClause_13 kc_t_13_5 (fun c_11 => absurd c_11 (by decide)) (fun c_11 => ?_)
    refine lv_iconst (v := 0) hx hb dX4_readClause_16 kc_i_0 ?_
    have hP9 := hP
    have hD9 := hD
    have hK9 := hK
    rw [hQ]
    exact W.zret (v := 0) hx hb hr rfl (fun t ht hW => ⟨⟨0, (s1, s2, wr, fi, Pn_2, false, ([]), 0, 0), rfl, ⟨rfl, (by unfold kCla; rw [← hw_5_0, ← hw_5_1]; rw [if_neg (by omega)]), by omega, by omega, by omega, fun z => absurd z (by decide)⟩,  by rw [ht]; exact hP9, va_K.moved hW.alike hK9, hD9⟩, hS.F ht⟩) hS.2.2 dX4_readClause_17
  · have hlt9 : Pn_2 < kt := by rcases (show ch_3 = 0 ∨ Pn_2 < kt by assumption) with z | z; (exfalso; rw [z, hz6] at hj_10; omega); exact z
    refine lv_istore_n hx hb dX4_readClause_11 rfl hl kc_l_1_5 (kTo [(1, .int (nI (j_9))), (0, .ref jR)]) (fun ls hl => ?_)
    refine lv_iload_n hx hb dX4_readClause_12 rfl (lv_at hl 0 rfl) ?_
    have bd_12 : j_9 < 2147483648 := by omega
    refine lv_if_ge (tgt := 18) hx hb dX4_readClause_13 kc_t_13_5 (fun c_13 => ?_) (fun c_13 => absurd (nI_pos' (n := j_9) bd_12) c_13)
    refine lv_aload_n hx hb dX4_readClause_18 rfl (lv_at hl 1 rfl) ?_
    refine lv_dup hx hb dX4_readClause_19 rfl ?_
    refine va_get (D := (dC, dI)) (ci := 4) (v := .int (nI (Pn_2))) (C := RX4) (T := TX4) (N := 8) hx hb hts (fun _ h => List.mem_cons_of_mem _ (List.mem_append_right _ (List.mem_append_right _ (List.mem_append_right _ (List.mem_append_left _ h))))) hown hK hP 0 rfl rfl 5 kc_l_5_8 (hts (.fieldLink RX4 25 "NotEnded$Reader" "place" "I") (List.mem_cons_of_mem _ (List.mem_append_left _ (List.mem_of_getElem? (i := 11) rfl)))) (fun _ h9 => h9) rfl dX4_readClause_20 ?_
    refine lv_iconst (v := 1) hx hb dX4_readClause_23 kc_i_1 ?_
    refine lv_iadd hx hb dX4_readClause_24 ?_
    refine lv_topi (fun y_14 ey_14 => ?_)
    obtain rfl : y_14 = nI (Pn_2 + 1) := ey_14.trans (nI_add (Pn_2) (1))
    refine va_put (D := (dC, dI)) (ci := 4) (v := .int (nI (Pn_2 + 1))) (ty := tyX4 5) (C := RX4) (T := TX4) (N := 8) hx hb hts (fun _ h => List.mem_cons_of_mem _ (List.mem_append_right _ (List.mem_append_right _ (List.mem_append_right _ (List.mem_append_left _ h))))) tyX4 tyX4_ok nmX4 hown hK hP hD hS 0 rfl rfl 5 kc_l_5_8 (hts (.fieldLink RX4 25 "NotEnded$Reader" "place" "I") (List.mem_cons_of_mem _ (List.mem_append_left _ (List.mem_of_getElem? (i := 11) rfl)))) (fun _ h9 => h9) rfl (tyX4_ok 5 kc_l_5_8) rfl rfl (Nat.le_of_ble_eq_true rfl) dX4_readClause_25 (fun H locs hP hD hS => ?_)
    have hPD : kPD dC dI A [(jR, .inr (4, [.ref jT, .ref r1, .ref r2, .int (nI (wr)), .int (nI (fi)), .int (nI (Pn_2 + 1)), .ref q6, .ref q7])), (r1, .inl (c1, 120, .inl s1)), (r2, .inl (c2, 124, .inl s2)), (jT, .inr (8, [.ref t0, .int (nI (kt))])), (t0, .inl (cC, 120, .inl gT))] H := ⟨hP, hD⟩
    have hP := hPD.1
    have hD := hPD.2
    refine lv_aload_n hx hb dX4_readClause_28 rfl (lv_at hl 1 rfl) ?_
    refine lv_bipush (v := 58) hx hb dX4_readClause_29 kc_b_58 ?_
    have bd_15 : (Pn_2 + 1) ≤ kt := by omega
    have hCu := kCut (wc := [(jR, .inr (4, [.ref jT, .ref r1, .ref r2, .int (nI (wr)), .int (nI (fi)), .int (nI (Pn_2 + 1)), .ref q6, .ref q7])), (r1, .inl (c1, 120, .inl s1)), (r2, .inl (c2, 124, .inl s2)), (jT, .inr (8, [.ref t0, .int (nI (kt))])), (t0, .inl (cC, 120, .inl gT))]) hP hD hS hA [0, 1, 2, 3, 4] rfl kc_nd_311 rfl
    have hPc := hCu.1
    have hDc := hCu.2.1
    have hFc := hCu.2.2
    have hKc := hK.sb (tys2 := [(c1, .int), (c2, .int), (cC, .char)]) [0, 1, 2] rfl
    refine va_calli (va_runV (As := [.int 58]) (rest := []) ⟨hx, hb, hml, hown, hts⟩ (s_take4_58 l dC dI jT t0 cC gT kt hkt hgT bt hbt hb8 jR r1 r2 c1 c2 s1 s2 wr fi q6 q7 hwr hfi (Pn_2 + 1) bd_15 H.size) (cwV 1 hts (kG (List.forall_mem_cons.mpr ⟨(List.mem_cons_of_mem _ (List.mem_append_left _ (List.mem_of_getElem? (i := 45) rfl))), (List.forall_mem_cons.mpr ⟨(List.mem_cons_of_mem _ (List.mem_append_left _ (List.mem_of_getElem? (i := 44) rfl))), (List.forall_mem_cons.mpr ⟨(List.mem_cons_of_mem _ (List.mem_append_left _ (List.mem_of_getElem? (i := 43) rfl))), (List.forall_mem_cons.mpr ⟨(List.mem_cons_of_mem _ (List.mem_append_left _ (List.mem_of_getElem? (i := 0) rfl))), (fun _ h => absurd h List.not_mem_nil)⟩)⟩)⟩)⟩) (kGV _ _ _ _) (fun _ h => List.mem_cons_of_mem _ (List.mem_append_right _ (List.mem_append_right _ (List.mem_append_right _ (List.mem_append_right _ (List.mem_append_right _ (List.mem_append_right _ (List.mem_append_right _ (List.mem_append_right _ (List.mem_append_right _ (List.mem_append_right _ (List.mem_append_right _ (List.mem_append_right _ (List.mem_append_left _ h)))))))))))))) gw_s_take4_58) rfl rfl rfl ⟨rfl, hd_X4_take⟩ ⟨(Nat.le_of_ble_eq_true rfl), (Nat.le_of_ble_eq_true rfl)⟩) (kW_V kT_blind kT_give (va_recv hKc hPc (ci := 4) (q0 := 0) rfl rfl) hPc hKc hDc) rfl rfl hl.1 rfl (lv_room (Nat.le_of_ble_eq_true rfl)) dX4_readClause_31 ⟨(Nat.le_of_ble_eq_true rfl), (Nat.le_of_ble_eq_true rfl)⟩) hS (fun q _ h => hFc q h) hFc (fun r_16 => kU2 (fun Pn_17 xo_18 t H_19 locs ht hvm hw hB hz1 hk1 hS => ?_))
    try dsimp only at hw
    have hPD : kPD dC dI A [(jR, .inr (4, [.ref jT, .ref r1, .ref r2, .int (nI (wr)), .int (nI (fi)), .int (nI (Pn_17)), .ref q6, .ref q7])), (r1, .inl (c1, 120, .inl s1)), (r2, .inl (c2, 124, .inl s2)), (jT, .inr (8, [.ref t0, .int (nI (kt))])), (t0, .inl (cC, 120, .inl gT))] H_19 := kJoinX hP hD [0, 1, 2, 3, 4] rfl hk1 hFc hB.1 ht hB.2.2 rfl [some 0, some 1, some 2, some 3, some 4] rfl rfl
    have hP := hPD.1
    have hD := hPD.2
    have hw_20 := hw
    refine lv_if_ne (tgt := 39) hx hb dX4_readClause_34 kc_t_34_5 (fun c_21 => ?_) (fun c_21 => ?_)
    · obtain rfl : xo_18 = true := kBo_t (kNz9 hw_20.1 c_21)
      have hw_20_p := hw_20.2.2.2.2 rfl
      have hw_20_k := hw_20.2.2.2.1
      refine lv_aload_n hx hb dX4_readClause_39 rfl (lv_at hl 1 rfl) ?_
      refine va_get (D := (dC, dI)) (ci := 4) (v := .int (nI (wr))) (C := RX4) (T := TX4) (N := 8) hx hb hts (fun _ h => List.mem_cons_of_mem _ (List.mem_append_right _ (List.mem_append_right _ (List.mem_append_right _ (List.mem_append_left _ h))))) hown hK hP 0 rfl rfl 3 kc_l_3_8 (hts (.fieldLink RX4 18 "NotEnded$Reader" "written" "I") (List.mem_cons_of_mem _ (List.mem_append_left _ (List.mem_of_getElem? (i := 51) rfl)))) (fun _ h9 => h9) rfl dX4_readClause_40 ?_
      refine lv_istore_n hx hb dX4_readClause_43 rfl hl kc_l_2_5 (kTo [(2, .int (nI (wr))), (1, .int (nI (j_9))), (0, .ref jR)]) (fun ls hl => ?_)
      refine lv_aload_n hx hb dX4_readClause_44 rfl (lv_at hl 2 rfl) ?_
      have bd_22 : Pn_17 ≤ kt := by omega
      have hCu := kCut (wc := [(jR, .inr (4, [.ref jT, .ref r1, .ref r2, .int (nI (wr)), .int (nI (fi)), .int (nI (Pn_17)), .ref q6, .ref q7])), (r1, .inl (c1, 120, .inl s1)), (r2, .inl (c2, 124, .inl s2)), (jT, .inr (8, [.ref t0, .int (nI (kt))])), (t0, .inl (cC, 120, .inl gT))]) hP hD hS hA [0, 1, 2, 3, 4] rfl kc_nd_311 rfl
      have hPc := hCu.1
      have hDc := hCu.2.1
      have hFc := hCu.2.2
      have hKc := hK.sb (tys2 := [(c1, .int), (c2, .int), (cC, .char)]) [0, 1, 2] rfl
      refine va_calli (va_runV (As := []) (rest := []) ⟨hx, hb, hml, hown, hts⟩ (s_look4x l dC dI jT t0 cC gT kt hkt hgT bt hbt hb8 jR r1 r2 c1 c2 s1 s2 wr fi q6 q7 hwr hfi Pn_17 bd_22 H_19.size) (cwV 0 hts (kG (List.forall_mem_cons.mpr ⟨(List.mem_cons_of_mem _ (List.mem_append_left _ (List.mem_of_getElem? (i := 3) rfl))), (List.forall_mem_cons.mpr ⟨(List.mem_cons_of_mem _ (List.mem_append_left _ (List.mem_of_getElem? (i := 2) rfl))), (List.forall_mem_cons.mpr ⟨(List.mem_cons_of_mem _ (List.mem_append_left _ (List.mem_of_getElem? (i := 1) rfl))), (List.forall_mem_cons.mpr ⟨(List.mem_cons_of_mem _ (List.mem_append_left _ (List.mem_of_getElem? (i := 0) rfl))), (fun _ h => absurd h List.not_mem_nil)⟩)⟩)⟩)⟩) (kGV _ _ _ _) (fun _ h => List.mem_cons_of_mem _ (List.mem_append_right _ (List.mem_append_left _ h))) gw_s_look4x) rfl rfl rfl ⟨rfl, hd_X4_look⟩ ⟨(Nat.le_of_ble_eq_true rfl), (Nat.le_of_ble_eq_true rfl)⟩) (kW_V kT_blind kT_give (va_recv hKc hPc (ci := 4) (q0 := 0) rfl rfl) hPc hKc hDc) rfl rfl hl.1 rfl (lv_room (Nat.le_of_ble_eq_true rfl)) dX4_readClause_45 ⟨(Nat.le_of_ble_eq_true rfl), (Nat.le_of_ble_eq_true rfl)⟩) hS (fun q _ h => hFc q h) hFc (fun r_23 => kU2 (fun Pn_24 ch_25 t H_26 locs ht hvm hw hB hz1 hk1 hS => ?_))
      try dsimp only at hw
      have hPD : kPD dC dI A [(jR, .inr (4, [.ref jT, .ref r1, .ref r2, .int (nI (wr)), .int (nI (fi)), .int (nI (Pn_24)), .ref q6, .ref q7])), (r1, .inl (c1, 120, .inl s1)), (r2, .inl (c2, 124, .inl s2)), (jT, .inr (8, [.ref t0, .int (nI (kt))])), (t0, .inl (cC, 120, .inl gT))] H_26 := kJoinX hP hD [0, 1, 2, 3, 4] rfl hk1 hFc hB.1 ht hB.2.2 rfl [some 0, some 1, some 2, some 3, some 4] rfl rfl
      have hP := hPD.1
      have hD := hPD.2
      obtain ⟨rfl, hw_27_0, hw_27_1, hw_27_2, hw_27_3, hw_27_4, hw_27_5, hw_27_6⟩ := hw
      refine lv_bipush (v := 33) hx hb dX4_readClause_48 kc_b_33 ?_
      refine lv_icmp_eq (tgt := 62) hx hb dX4_readClause_50 kc_t_50_12 (fun c_28 => ?_) (fun c_28 => ?_)
      · have bd_30 : ch_25 < 2147483648 := by omega
        have hn_29 := keq (a := ch_25) (b := 33) bd_30 kc_31_33 c_28
        refine lv_iconst (v := 1) hx hb dX4_readClause_62 kc_i_1 ?_
        refine lv_goto (tgt := 67) hx hb dX4_readClause_63 kc_t_63_4 ?_
        refine lv_istore_n hx hb dX4_readClause_67 rfl hl kc_l_3_5 (kTo [(3, .int 1), (2, .int (nI (wr))), (1, .int (nI (j_9))), (0, .ref jR)]) (fun ls hl => ?_)
        refine lv_iload_n hx hb dX4_readClause_68 rfl (lv_at hl 0 rfl) ?_
        refine lv_if_ne (tgt := 100) hx hb dX4_readClause_69 kc_t_69_31 (fun c_31 => ?_) (fun c_31 => absurd c_31 (by decide))
        refine lv_aload_n hx hb dX4_readClause_100 rfl (lv_at hl 3 rfl) ?_
        refine lv_iconst (v := 0) hx hb dX4_readClause_101 kc_i_0 ?_
        refine lv_iload_n hx hb dX4_readClause_102 rfl (lv_at hl 0 rfl) ?_
        refine lv_if_ne (tgt := 110) hx hb dX4_readClause_103 kc_t_103_7 (fun c_32 => ?_) (fun c_32 => absurd c_32 (by decide))
        refine lv_iconst (v := 0) hx hb dX4_readClause_110 kc_i_0 ?_
        have bd_33 : Pn_24 ≤ kt := by omega
        have bd_34 : wr ≤ Pn_24 := by omega
        have hCu := kCut (wc := [(jR, .inr (4, [.ref jT, .ref r1, .ref r2, .int (nI (wr)), .int (nI (fi)), .int (nI (Pn_24)), .ref q6, .ref q7])), (r1, .inl (c1, 120, .inl s1)), (r2, .inl (c2, 124, .inl s2)), (jT, .inr (8, [.ref t0, .int (nI (kt))])), (t0, .inl (cC, 120, .inl gT))]) hP hD hS hA [0, 1, 2, 3, 4] rfl kc_nd_311 rfl
        have hPc := hCu.1
        have hDc := hCu.2.1
        have hFc := hCu.2.2
        have hKc := hK.sb (tys2 := [(c1, .int), (c2, .int), (cC, .char)]) [0, 1, 2] rfl
        refine va_calli (va_runV (As := [.int 0, .int 0]) (rest := []) ⟨hx, hb, hml, hown, hts⟩ (s_cond4x_0_0 l dC dI jT t0 cC gT kt hkt hgT bt hbt hb8 jR r1 r2 c1 c2 s1 s2 wr fi q6 q7 hwr hfi Pn_24 bd_33 bd_34 b6 n6 g6 hn6 b7 n7 g7 hn7 gn6 hz6 gn7 hz7 H_26.size) (cwV 2 hts (kG (List.forall_mem_cons.mpr ⟨(List.mem_cons_of_mem _ (List.mem_append_left _ (List.mem_of_getElem? (i := 49) rfl))), (List.forall_mem_cons.mpr ⟨(List.mem_cons_of_mem _ (List.mem_append_left _ (List.mem_of_getElem? (i := 48) rfl))), (List.forall_mem_cons.mpr ⟨(List.mem_cons_of_mem _ (List.mem_append_left _ (List.mem_of_getElem? (i := 47) rfl))), (List.forall_mem_cons.mpr ⟨(List.mem_cons_of_mem _ (List.mem_append_left _ (List.mem_of_getElem? (i := 0) rfl))), (fun _ h => absurd h List.not_mem_nil)⟩)⟩)⟩)⟩) (kGV _ _ _ _) (kFam (List.mem_cons_of_mem _ (List.mem_append_left _ (List.mem_of_getElem? (i := 46) rfl)))) gw_s_cond4x_0_0) rfl rfl rfl ⟨rfl, hd_X4_readCondition⟩ ⟨(Nat.le_of_ble_eq_true rfl), (Nat.le_of_ble_eq_true rfl)⟩) (kW_V kS2_blind (kS2_give hX hS hFc) (va_recv hKc hPc (ci := 4) (q0 := 0) rfl rfl) hPc hKc hDc) rfl rfl hl.1 rfl (lv_room (Nat.le_of_ble_eq_true rfl)) dX4_readClause_111 ⟨(Nat.le_of_ble_eq_true rfl), (Nat.le_of_ble_eq_true rfl)⟩) hS (fun q _ h => hFc q h) hFc (fun r_35 => kU5 (fun S1_36 Wr_37 Pn_38 xo_39 xl_40 t H_41 locs ht hvm hw hB hz1 hk1 hS => ?_))
        try dsimp only at hw
        have hPD : kPD dC dI A [(jR, .inr (4, [.ref jT, .ref r1, .ref r2, .int (nI (Wr_37)), .int (nI (fi)), .int (nI (Pn_38)), .ref q6, .ref q7])), (r1, .inl (c1, 120, .inl S1_36)), (r2, .inl (c2, 124, .inl s2)), (jT, .inr (8, [.ref t0, .int (nI (kt))])), (t0, .inl (cC, 120, .inl gT))] H_41 := kJoinX hP hD [0, 1, 2, 3, 4] rfl hk1 hFc hB.1 ht hB.2.2 rfl [some 0, some 1, some 2, some 3, some 4] rfl rfl
        have hP := hPD.1
        have hD := hPD.2
        have hw_42 := hw
        refine lv_if_ne (tgt := 119) hx hb dX4_readClause_114 kc_t_114_5 (fun c_43 => ?_) (fun c_43 => ?_)
        · obtain rfl : xo_39 = true := kBo_t (kNz9 hw_42.1 c_43)
          obtain ⟨hw_42_W, hw_42_S, hw_42_l, hw_42_p⟩ := hw_42.2.1.2.2 rfl
          have hw_42_k := hw_42.2.1.2.1
          refine lv_aload_n hx hb dX4_readClause_119 rfl (lv_at hl 3 rfl) ?_
          refine va_get (D := (dC, dI)) (ci := 4) (v := .int (nI (Wr_37))) (C := RX4) (T := TX4) (N := 8) hx hb hts (fun _ h => List.mem_cons_of_mem _ (List.mem_append_right _ (List.mem_append_right _ (List.mem_append_right _ (List.mem_append_left _ h))))) hown hK hP 0 rfl rfl 3 kc_l_3_8 (hts (.fieldLink RX4 18 "NotEnded$Reader" "written" "I") (List.mem_cons_of_mem _ (List.mem_append_left _ (List.mem_of_getElem? (i := 51) rfl)))) (fun _ h9 => h9) rfl dX4_readClause_120 ?_
          refine lv_istore hx hb dX4_readClause_123 hl kc_l_4_5 (kTo [(4, .int (nI (Wr_37))), (3, .int 1), (2, .int (nI (wr))), (1, .int (nI (j_9))), (0, .ref jR)]) (fun ls hl => ?_)
          refine lv_aload_n hx hb dX4_readClause_125 rfl (lv_at hl 4 rfl) ?_
          refine lv_bipush (v := 63) hx hb dX4_readClause_126 kc_b_63 ?_
          have bd_44 : Wr_37 ≤ 120 := by omega
          have bd_45 : Pn_38 ≤ kt := by omega
          have hCu := kCut (wc := [(jR, .inr (4, [.ref jT, .ref r1, .ref r2, .int (nI (Wr_37)), .int (nI (fi)), .int (nI (Pn_38)), .ref q6, .ref q7])), (r1, .inl (c1, 120, .inl S1_36)), (r2, .inl (c2, 124, .inl s2)), (jT, .inr (8, [.ref t0, .int (nI (kt))])), (t0, .inl (cC, 120, .inl gT))]) hP hD hS hA [0, 1, 2, 3, 4] rfl kc_nd_311 rfl
          have hPc := hCu.1
          have hDc := hCu.2.1
          have hFc := hCu.2.2
          have hKc := hK.sb (tys2 := [(c1, .int), (c2, .int), (cC, .char)]) [0, 1, 2] rfl
          refine va_calli (va_runV (As := [.int 63]) (rest := []) ⟨hx, hb, hml, hown, hts⟩ (s_take4_63 l dC dI jT t0 cC gT kt hkt hgT bt hbt hb8 jR r1 r2 c1 c2 S1_36 s2 Wr_37 fi q6 q7 bd_44 hfi Pn_38 bd_45 H_41.size) (cwV 1 hts (kG (List.forall_mem_cons.mpr ⟨(List.mem_cons_of_mem _ (List.mem_append_left _ (List.mem_of_getElem? (i := 45) rfl))), (List.forall_mem_cons.mpr ⟨(List.mem_cons_of_mem _ (List.mem_append_left _ (List.mem_of_getElem? (i := 44) rfl))), (List.forall_mem_cons.mpr ⟨(List.mem_cons_of_mem _ (List.mem_append_left _ (List.mem_of_getElem? (i := 43) rfl))), (List.forall_mem_cons.mpr ⟨(List.mem_cons_of_mem _ (List.mem_append_left _ (List.mem_of_getElem? (i := 0) rfl))), (fun _ h => absurd h List.not_mem_nil)⟩)⟩)⟩)⟩) (kGV _ _ _ _) (fun _ h => List.mem_cons_of_mem _ (List.mem_append_right _ (List.mem_append_right _ (List.mem_append_right _ (List.mem_append_right _ (List.mem_append_right _ (List.mem_append_right _ (List.mem_append_right _ (List.mem_append_right _ (List.mem_append_right _ (List.mem_append_right _ (List.mem_append_right _ (List.mem_append_right _ (List.mem_append_right _ (List.mem_append_left _ h))))))))))))))) gw_s_take4_63) rfl rfl rfl ⟨rfl, hd_X4_take⟩ ⟨(Nat.le_of_ble_eq_true rfl), (Nat.le_of_ble_eq_true rfl)⟩) (kW_V kT_blind kT_give (va_recv hKc hPc (ci := 4) (q0 := 0) rfl rfl) hPc hKc hDc) rfl rfl hl.1 rfl (lv_room (Nat.le_of_ble_eq_true rfl)) dX4_readClause_128 ⟨(Nat.le_of_ble_eq_true rfl), (Nat.le_of_ble_eq_true rfl)⟩) hS (fun q _ h => hFc q h) hFc (fun r_46 => kU2 (fun Pn_47 xo_48 t H_49 locs ht hvm hw hB hz1 hk1 hS => ?_))
          try dsimp only at hw
          have hPD : kPD dC dI A [(jR, .inr (4, [.ref jT, .ref r1, .ref r2, .int (nI (Wr_37)), .int (nI (fi)), .int (nI (Pn_47)), .ref q6, .ref q7])), (r1, .inl (c1, 120, .inl S1_36)), (r2, .inl (c2, 124, .inl s2)), (jT, .inr (8, [.ref t0, .int (nI (kt))])), (t0, .inl (cC, 120, .inl gT))] H_49 := kJoinX hP hD [0, 1, 2, 3, 4] rfl hk1 hFc hB.1 ht hB.2.2 rfl [some 0, some 1, some 2, some 3, some 4] rfl rfl
          have hP := hPD.1
          have hD := hPD.2
          have hw_50 := hw
          refine lv_if_eq (tgt := 157) hx hb dX4_readClause_131 kc_t_131_26 (fun c_51 => ?_) (fun c_51 => ?_)
          · obtain rfl : xo_48 = false := kBo_f (kZr9 hw_50.1 c_51)
            have hw_50_k := hw_50.2.2.2.1
            refine lv_iconst (v := 0) hx hb dX4_readClause_157 kc_i_0 ?_
            have hP9 := hP
            have hD9 := hD
            have hK9 := hK
            rw [hQ]
            exact W.zret (v := 0) hx hb hr rfl (fun t ht hW => ⟨⟨0, (S1_36, s2, Wr_37, fi, Pn_47, false, ([]), 0, 0), rfl, ⟨rfl, (by unfold kCla; rw [← hw_5_0, ← hw_5_1]; rw [hj_10, if_pos (by omega), hw_20.2.1, kThC_t]; unfold kCla1; rw [← hw_27_0, ← hw_27_1, if_pos (by omega), hw_42.2.1.1, kThC_t]; unfold kCla2; rw [hw_50.2.1]; rfl), by omega, by omega, by omega, fun z => absurd z (by decide)⟩,  by rw [ht]; exact hP9, va_K.moved hW.alike hK9, hD9⟩, hS.F ht⟩) hS.2.2 dX4_readClause_158
          · obtain rfl : xo_48 = true := kBo_t (kNz9 hw_50.1 c_51)
            have hw_50_p := hw_50.2.2.2.2 rfl
            have hw_50_k := hw_50.2.2.2.1
            refine lv_aload_n hx hb dX4_readClause_134 rfl (lv_at hl 4 rfl) ?_
            refine lv_iconst (v := 0) hx hb dX4_readClause_135 kc_i_0 ?_
            have bd_52 : Pn_47 ≤ kt := by omega
            have bd_53 : Wr_37 ≤ Pn_47 := by omega
            have hCu := kCut (wc := [(jR, .inr (4, [.ref jT, .ref r1, .ref r2, .int (nI (Wr_37)), .int (nI (fi)), .int (nI (Pn_47)), .ref q6, .ref q7])), (r1, .inl (c1, 120, .inl S1_36)), (r2, .inl (c2, 124, .inl s2)), (jT, .inr (8, [.ref t0, .int (nI (kt))])), (t0, .inl (cC, 120, .inl gT))]) hP hD hS hA [0, 1, 2, 3, 4] rfl kc_nd_311 rfl
            have hPc := hCu.1
            have hDc := hCu.2.1
            have hFc := hCu.2.2
            have hKc := hK.sb (tys2 := [(c1, .int), (c2, .int), (cC, .char)]) [0, 1, 2] rfl
            refine va_calli (va_runV (As := [.int 0]) (rest := []) ⟨hx, hb, hml, hown, hts⟩ (s_sum4x_0 l dC dI jT t0 cC gT kt hkt hgT bt hbt hb8 jR r1 r2 c1 c2 S1_36 s2 Wr_37 fi q6 q7 bd_44 hfi Pn_47 bd_52 bd_53 b6 n6 g6 hn6 b7 n7 g7 hn7 gn6 hz6 gn7 hz7 H_49.size) (cwV 1 hts (kG (List.forall_mem_cons.mpr ⟨(List.mem_cons_of_mem _ (List.mem_append_left _ (List.mem_of_getElem? (i := 32) rfl))), (List.forall_mem_cons.mpr ⟨(List.mem_cons_of_mem _ (List.mem_append_left _ (List.mem_of_getElem? (i := 31) rfl))), (List.forall_mem_cons.mpr ⟨(List.mem_cons_of_mem _ (List.mem_append_left _ (List.mem_of_getElem? (i := 30) rfl))), (List.forall_mem_cons.mpr ⟨(List.mem_cons_of_mem _ (List.mem_append_left _ (List.mem_of_getElem? (i := 0) rfl))), (fun _ h => absurd h List.not_mem_nil)⟩)⟩)⟩)⟩) (kGV _ _ _ _) (kFam (List.mem_cons_of_mem _ (List.mem_append_left _ (List.mem_of_getElem? (i := 29) rfl)))) gw_s_sum4x_0) rfl rfl rfl ⟨rfl, hd_X4_readSum⟩ ⟨(Nat.le_of_ble_eq_true rfl), (Nat.le_of_ble_eq_true rfl)⟩) (kW_V kS2_blind (kS2_give hX hS hFc) (va_recv hKc hPc (ci := 4) (q0 := 0) rfl rfl) hPc hKc hDc) rfl rfl hl.1 rfl (lv_room (Nat.le_of_ble_eq_true rfl)) dX4_readClause_136 ⟨(Nat.le_of_ble_eq_true rfl), (Nat.le_of_ble_eq_true rfl)⟩) hS (fun q _ h => hFc q h) hFc (fun r_54 => kU5 (fun S1_55 Wr_56 Pn_57 xo_58 xl_59 t H_60 locs ht hvm hw hB hz1 hk1 hS => ?_))
            try dsimp only at hw
            have hPD : kPD dC dI A [(jR, .inr (4, [.ref jT, .ref r1, .ref r2, .int (nI (Wr_56)), .int (nI (fi)), .int (nI (Pn_57)), .ref q6, .ref q7])), (r1, .inl (c1, 120, .inl S1_55)), (r2, .inl (c2, 124, .inl s2)), (jT, .inr (8, [.ref t0, .int (nI (kt))])), (t0, .inl (cC, 120, .inl gT))] H_60 := kJoinX hP hD [0, 1, 2, 3, 4] rfl hk1 hFc hB.1 ht hB.2.2 rfl [some 0, some 1, some 2, some 3, some 4] rfl rfl
            have hP := hPD.1
            have hD := hPD.2
            have hw_61 := hw
            refine lv_if_eq (tgt := 157) hx hb dX4_readClause_139 kc_t_139_18 (fun c_62 => ?_) (fun c_62 => ?_)
            · obtain rfl : xo_58 = false := kBo_f (kZr9 hw_61.1 c_62)
              have hw_61_k := hw_61.2.1.2.1
              refine lv_iconst (v := 0) hx hb dX4_readClause_157 kc_i_0 ?_
              have hP9 := hP
              have hD9 := hD
              have hK9 := hK
              rw [hQ]
              exact W.zret (v := 0) hx hb hr rfl (fun t ht hW => ⟨⟨0, (S1_55, s2, Wr_56, fi, Pn_57, false, ([]), 0, 0), rfl, ⟨rfl, (by unfold kCla; rw [← hw_5_0, ← hw_5_1]; rw [hj_10, if_pos (by omega), hw_20.2.1, kThC_t]; unfold kCla1; rw [← hw_27_0, ← hw_27_1, if_pos (by omega), hw_42.2.1.1, kThC_t]; unfold kCla2; rw [hw_50.2.1, kThC_t, hw_61.2.1.1]; rfl), by omega, by omega, by omega, fun z => absurd z (by decide)⟩,  by rw [ht]; exact hP9, va_K.moved hW.alike hK9, hD9⟩, hS.F ht⟩) hS.2.2 dX4_readClause_158
            · obtain rfl : xo_58 = true := kBo_t (kNz9 hw_61.1 c_62)
              obtain ⟨hw_61_W, hw_61_S, hw_61_l, hw_61_p⟩ := hw_61.2.1.2.2 rfl
              have hw_61_k := hw_61.2.1.2.1
              refine lv_aload_n hx hb dX4_readClause_142 rfl (lv_at hl 4 rfl) ?_
              refine lv_iload_n hx hb dX4_readClause_143 rfl (lv_at hl 3 rfl) ?_
              refine lv_iload_n hx hb dX4_readClause_144 rfl (lv_at hl 2 rfl) ?_
              refine lv_iload hx hb dX4_readClause_145 (lv_at hl 0 rfl) ?_
              have bd_63 : Wr_56 ≤ 120 := by omega
              have bd_64 : Pn_57 ≤ kt := by omega
              have hCu := kCut (wc := [(jR, .inr (4, [.ref jT, .ref r1, .ref r2, .int (nI (Wr_56)), .int (nI (fi)), .int (nI (Pn_57)), .ref q6, .ref q7])), (r1, .inl (c1, 120, .inl S1_55)), (r2, .inl (c2, 124, .inl s2)), (jT, .inr (8, [.ref t0, .int (nI (kt))])), (t0, .inl (cC, 120, .inl gT))]) hP hD hS hA [0, 1, 2, 3, 4] rfl kc_nd_311 rfl
              have hPc := hCu.1
              have hDc := hCu.2.1
              have hFc := hCu.2.2
              have hKc := hK.sb (tys2 := [(c1, .int), (c2, .int), (cC, .char)]) [0, 1, 2] rfl
              refine va_calli (va_runV (As := [.int (nI (j_9)), .int (nI (wr)), .int (nI (Wr_37))]) (rest := []) ⟨hx, hb, hml, hown, hts⟩ (s_keep4x l dC dI jT t0 cC gT kt hkt hgT bt hbt hb8 jR r1 r2 c1 c2 S1_55 s2 Wr_56 fi q6 q7 bd_63 hfi Pn_57 bd_64 j_9 wr Wr_37 hf9 H_60.size) (cwV 3 hts (kG (List.forall_mem_cons.mpr ⟨(List.mem_cons_of_mem _ (List.mem_append_left _ (List.mem_of_getElem? (i := 54) rfl))), (List.forall_mem_cons.mpr ⟨(List.mem_cons_of_mem _ (List.mem_append_left _ (List.mem_of_getElem? (i := 53) rfl))), (List.forall_mem_cons.mpr ⟨(List.mem_cons_of_mem _ (List.mem_append_left _ (List.mem_of_getElem? (i := 52) rfl))), (List.forall_mem_cons.mpr ⟨(List.mem_cons_of_mem _ (List.mem_append_left _ (List.mem_of_getElem? (i := 0) rfl))), (fun _ h => absurd h List.not_mem_nil)⟩)⟩)⟩)⟩) (kGV _ _ _ _) (fun _ h => List.mem_cons_of_mem _ (List.mem_append_right _ (List.mem_append_right _ (List.mem_append_right _ (List.mem_append_right _ (List.mem_append_right _ (List.mem_append_right _ (List.mem_append_right _ (List.mem_append_right _ (List.mem_append_right _ (List.mem_append_right _ (List.mem_append_right _ (List.mem_append_right _ (List.mem_append_right _ (List.mem_append_right _ h))))))))))))))) gw_s_keep4x) rfl rfl rfl ⟨rfl, hd_X4_keepClause⟩ ⟨(Nat.le_of_ble_eq_true rfl), (Nat.le_of_ble_eq_true rfl)⟩) (kW_V kT_blind kT_give (va_recv hKc hPc (ci := 4) (q0 := 0) rfl rfl) hPc hKc hDc) rfl rfl hl.1 rfl (lv_room (Nat.le_of_ble_eq_true rfl)) dX4_readClause_147 ⟨(Nat.le_of_ble_eq_true rfl), (Nat.le_of_ble_eq_true rfl)⟩) hS (fun q _ h => hFc q h) hFc (fun r_65 => kU2 (fun S2_66 Fi_67 t H_68 locs ht hvm hw hB hz1 hk1 hS => ?_))
              try dsimp only at hw
              have hPD : kPD dC dI A [(jR, .inr (4, [.ref jT, .ref r1, .ref r2, .int (nI (Wr_56)), .int (nI (Fi_67)), .int (nI (Pn_57)), .ref q6, .ref q7])), (r1, .inl (c1, 120, .inl S1_55)), (r2, .inl (c2, 124, .inl S2_66)), (jT, .inr (8, [.ref t0, .int (nI (kt))])), (t0, .inl (cC, 120, .inl gT))] H_68 := kJoinX hP hD [0, 1, 2, 3, 4] rfl hk1 hFc hB.1 ht hB.2.2 rfl [some 0, some 1, some 2, some 3, some 4] rfl rfl
              have hP := hPD.1
              have hD := hPD.2
              obtain ⟨rfl, hw_69⟩ := hw
              refine lv_if_eq (tgt := 157) hx hb dX4_readClause_150 kc_t_150_7 (fun c_70 => absurd c_70 (by decide)) (fun c_70 => ?_)
              refine lv_iconst (v := 1) hx hb dX4_readClause_153 kc_i_1 ?_
              refine lv_goto (tgt := 158) hx hb dX4_readClause_154 kc_t_154_4 ?_
              have hP9 := hP
              have hD9 := hD
              have hK9 := hK
              rw [hQ]
              exact W.zret (v := 1) hx hb hr rfl (fun t ht hW => ⟨⟨1, (S1_55, S2_66, Wr_56, Fi_67, Pn_57, true, (xl_40 ++ xl_59), j_9, ((xl_40).length)), rfl, ⟨rfl, (by unfold kCla; rw [← hw_5_0, ← hw_5_1]; rw [hj_10, if_pos (by omega), hw_20.2.1, kThC_t]; unfold kCla1; rw [← hw_27_0, ← hw_27_1, if_pos (by omega), hw_42.2.1.1, kThC_t]; unfold kCla2; rw [hw_50.2.1, kThC_t, hw_61.2.1.1, kThC_t]), by omega, by omega, by omega, fun _ => ⟨(by first | omega | (simp only [List.length_append]; omega)), (kWrtC hw_42_S hw_42_W hw_61_S), hw_69.1, kKeep hw_69.2 (by first | omega | (simp only [List.length_append]; omega)) (by first | omega | (simp only [List.length_append]; omega)), (by first | omega | (simp only [List.length_append]; omega)), by omega⟩⟩,  by rw [ht]; exact hP9, va_K.moved hW.alike hK9, hD9⟩, hS.F ht⟩) hS.2.2 dX4_readClause_158
        · obtain rfl : xo_39 = false := kBo_f (kZr9 hw_42.1 c_43)
          have hw_42_k := hw_42.2.1.2.1
          refine lv_iconst (v := 0) hx hb dX4_readClause_117 kc_i_0 ?_
          have hP9 := hP
          have hD9 := hD
          have hK9 := hK
          rw [hQ]
          exact W.zret (v := 0) hx hb hr rfl (fun t ht hW => ⟨⟨0, (S1_36, s2, Wr_37, fi, Pn_38, false, ([]), 0, 0), rfl, ⟨rfl, (by unfold kCla; rw [← hw_5_0, ← hw_5_1]; rw [hj_10, if_pos (by omega), hw_20.2.1, kThC_t]; unfold kCla1; rw [← hw_27_0, ← hw_27_1, if_pos (by omega), hw_42.2.1.1]; rfl), by omega, by omega, by omega, fun z => absurd z (by decide)⟩,  by rw [ht]; exact hP9, va_K.moved hW.alike hK9, hD9⟩, hS.F ht⟩) hS.2.2 dX4_readClause_118
      · have bd_72 : ch_25 < 2147483648 := by omega
        have hn_71 := kneq (a := ch_25) (b := 33) bd_72 kc_31_33 c_28
        refine lv_aload_n hx hb dX4_readClause_53 rfl (lv_at hl 2 rfl) ?_
        have bd_73 : Pn_24 ≤ kt := by omega
        have hCu := kCut (wc := [(jR, .inr (4, [.ref jT, .ref r1, .ref r2, .int (nI (wr)), .int (nI (fi)), .int (nI (Pn_24)), .ref q6, .ref q7])), (r1, .inl (c1, 120, .inl s1)), (r2, .inl (c2, 124, .inl s2)), (jT, .inr (8, [.ref t0, .int (nI (kt))])), (t0, .inl (cC, 120, .inl gT))]) hP hD hS hA [0, 1, 2, 3, 4] rfl kc_nd_311 rfl
        have hPc := hCu.1
        have hDc := hCu.2.1
        have hFc := hCu.2.2
        have hKc := hK.sb (tys2 := [(c1, .int), (c2, .int), (cC, .char)]) [0, 1, 2] rfl
        refine va_calli (va_runV (As := []) (rest := []) ⟨hx, hb, hml, hown, hts⟩ (s_look4x l dC dI jT t0 cC gT kt hkt hgT bt hbt hb8 jR r1 r2 c1 c2 s1 s2 wr fi q6 q7 hwr hfi Pn_24 bd_73 H_26.size) (cwV 0 hts (kG (List.forall_mem_cons.mpr ⟨(List.mem_cons_of_mem _ (List.mem_append_left _ (List.mem_of_getElem? (i := 3) rfl))), (List.forall_mem_cons.mpr ⟨(List.mem_cons_of_mem _ (List.mem_append_left _ (List.mem_of_getElem? (i := 2) rfl))), (List.forall_mem_cons.mpr ⟨(List.mem_cons_of_mem _ (List.mem_append_left _ (List.mem_of_getElem? (i := 1) rfl))), (List.forall_mem_cons.mpr ⟨(List.mem_cons_of_mem _ (List.mem_append_left _ (List.mem_of_getElem? (i := 0) rfl))), (fun _ h => absurd h List.not_mem_nil)⟩)⟩)⟩)⟩) (kGV _ _ _ _) (fun _ h => List.mem_cons_of_mem _ (List.mem_append_right _ (List.mem_append_left _ h))) gw_s_look4x) rfl rfl rfl ⟨rfl, hd_X4_look⟩ ⟨(Nat.le_of_ble_eq_true rfl), (Nat.le_of_ble_eq_true rfl)⟩) (kW_V kT_blind kT_give (va_recv hKc hPc (ci := 4) (q0 := 0) rfl rfl) hPc hKc hDc) rfl rfl hl.1 rfl (lv_room (Nat.le_of_ble_eq_true rfl)) dX4_readClause_54 ⟨(Nat.le_of_ble_eq_true rfl), (Nat.le_of_ble_eq_true rfl)⟩) hS (fun q _ h => hFc q h) hFc (fun r_74 => kU2 (fun Pn_75 ch_76 t H_77 locs ht hvm hw hB hz1 hk1 hS => ?_))
        try dsimp only at hw
        have hPD : kPD dC dI A [(jR, .inr (4, [.ref jT, .ref r1, .ref r2, .int (nI (wr)), .int (nI (fi)), .int (nI (Pn_75)), .ref q6, .ref q7])), (r1, .inl (c1, 120, .inl s1)), (r2, .inl (c2, 124, .inl s2)), (jT, .inr (8, [.ref t0, .int (nI (kt))])), (t0, .inl (cC, 120, .inl gT))] H_77 := kJoinX hP hD [0, 1, 2, 3, 4] rfl hk1 hFc hB.1 ht hB.2.2 rfl [some 0, some 1, some 2, some 3, some 4] rfl rfl
        have hP := hPD.1
        have hD := hPD.2
        obtain ⟨rfl, hw_78_0, hw_78_1, hw_78_2, hw_78_3, hw_78_4, hw_78_5, hw_78_6⟩ := hw
        have e9 : Pn_24 = Pn_75 := by rw [hw_78_1, hw_27_1]; exact (kSp_sp (by omega)).symm
        have e8 : ch_25 = ch_76 := by rw [hw_78_0, hw_27_0, hw_27_1]; exact (kLk_sp (by omega)).symm
        subst e9
        subst e8
        refine lv_bipush (v := 40) hx hb dX4_readClause_57 kc_b_40 ?_
        refine lv_icmp_ne (tgt := 66) hx hb dX4_readClause_59 kc_t_59_7 (fun c_79 => ?_) (fun c_79 => ?_)
        · have hn_80 := kneq (a := ch_25) (b := 40) bd_72 kc_31_40 c_79
          refine lv_iconst (v := 0) hx hb dX4_readClause_66 kc_i_0 ?_
          refine lv_istore_n hx hb dX4_readClause_67 rfl hl kc_l_3_5 (kTo [(3, .int 0), (2, .int (nI (wr))), (1, .int (nI (j_9))), (0, .ref jR)]) (fun ls hl => ?_)
          refine lv_iload_n hx hb dX4_readClause_68 rfl (lv_at hl 0 rfl) ?_
          refine lv_if_ne (tgt := 100) hx hb dX4_readClause_69 kc_t_69_31 (fun c_81 => absurd (by decide) c_81) (fun c_81 => ?_)
          refine lv_aload_n hx hb dX4_readClause_72 rfl (lv_at hl 3 rfl) ?_
          refine lv_iconst (v := 0) hx hb dX4_readClause_73 kc_i_0 ?_
          have bd_82 : wr ≤ Pn_24 := by omega
          have hCu := kCut (wc := [(jR, .inr (4, [.ref jT, .ref r1, .ref r2, .int (nI (wr)), .int (nI (fi)), .int (nI (Pn_24)), .ref q6, .ref q7])), (r1, .inl (c1, 120, .inl s1)), (r2, .inl (c2, 124, .inl s2)), (jT, .inr (8, [.ref t0, .int (nI (kt))])), (t0, .inl (cC, 120, .inl gT))]) hP hD hS hA [0, 1, 2, 3, 4] rfl kc_nd_311 rfl
          have hPc := hCu.1
          have hDc := hCu.2.1
          have hFc := hCu.2.2
          have hKc := hK.sb (tys2 := [(c1, .int), (c2, .int), (cC, .char)]) [0, 1, 2] rfl
          refine va_calli (va_runV (As := [.int 0]) (rest := []) ⟨hx, hb, hml, hown, hts⟩ (s_sum4x_0 l dC dI jT t0 cC gT kt hkt hgT bt hbt hb8 jR r1 r2 c1 c2 s1 s2 wr fi q6 q7 hwr hfi Pn_24 bd_73 bd_82 b6 n6 g6 hn6 b7 n7 g7 hn7 gn6 hz6 gn7 hz7 H_77.size) (cwV 1 hts (kG (List.forall_mem_cons.mpr ⟨(List.mem_cons_of_mem _ (List.mem_append_left _ (List.mem_of_getElem? (i := 32) rfl))), (List.forall_mem_cons.mpr ⟨(List.mem_cons_of_mem _ (List.mem_append_left _ (List.mem_of_getElem? (i := 31) rfl))), (List.forall_mem_cons.mpr ⟨(List.mem_cons_of_mem _ (List.mem_append_left _ (List.mem_of_getElem? (i := 30) rfl))), (List.forall_mem_cons.mpr ⟨(List.mem_cons_of_mem _ (List.mem_append_left _ (List.mem_of_getElem? (i := 0) rfl))), (fun _ h => absurd h List.not_mem_nil)⟩)⟩)⟩)⟩) (kGV _ _ _ _) (kFam (List.mem_cons_of_mem _ (List.mem_append_left _ (List.mem_of_getElem? (i := 29) rfl)))) gw_s_sum4x_0) rfl rfl rfl ⟨rfl, hd_X4_readSum⟩ ⟨(Nat.le_of_ble_eq_true rfl), (Nat.le_of_ble_eq_true rfl)⟩) (kW_V kS2_blind (kS2_give hX hS hFc) (va_recv hKc hPc (ci := 4) (q0 := 0) rfl rfl) hPc hKc hDc) rfl rfl hl.1 rfl (lv_room (Nat.le_of_ble_eq_true rfl)) dX4_readClause_74 ⟨(Nat.le_of_ble_eq_true rfl), (Nat.le_of_ble_eq_true rfl)⟩) hS (fun q _ h => hFc q h) hFc (fun r_83 => kU5 (fun S1_84 Wr_85 Pn_86 xo_87 xl_88 t H_89 locs ht hvm hw hB hz1 hk1 hS => ?_))
          try dsimp only at hw
          have hPD : kPD dC dI A [(jR, .inr (4, [.ref jT, .ref r1, .ref r2, .int (nI (Wr_85)), .int (nI (fi)), .int (nI (Pn_86)), .ref q6, .ref q7])), (r1, .inl (c1, 120, .inl S1_84)), (r2, .inl (c2, 124, .inl s2)), (jT, .inr (8, [.ref t0, .int (nI (kt))])), (t0, .inl (cC, 120, .inl gT))] H_89 := kJoinX hP hD [0, 1, 2, 3, 4] rfl hk1 hFc hB.1 ht hB.2.2 rfl [some 0, some 1, some 2, some 3, some 4] rfl rfl
          have hP := hPD.1
          have hD := hPD.2
          have hw_90 := hw
          refine lv_if_ne (tgt := 82) hx hb dX4_readClause_77 kc_t_77_5 (fun c_91 => ?_) (fun c_91 => ?_)
          · obtain rfl : xo_87 = true := kBo_t (kNz9 hw_90.1 c_91)
            obtain ⟨hw_90_W, hw_90_S, hw_90_l, hw_90_p⟩ := hw_90.2.1.2.2 rfl
            have hw_90_k := hw_90.2.1.2.1
            refine lv_aload_n hx hb dX4_readClause_82 rfl (lv_at hl 3 rfl) ?_
            have bd_92 : Wr_85 ≤ 120 := by omega
            have bd_93 : Pn_86 ≤ kt := by omega
            have hCu := kCut (wc := [(jR, .inr (4, [.ref jT, .ref r1, .ref r2, .int (nI (Wr_85)), .int (nI (fi)), .int (nI (Pn_86)), .ref q6, .ref q7])), (r1, .inl (c1, 120, .inl S1_84)), (r2, .inl (c2, 124, .inl s2)), (jT, .inr (8, [.ref t0, .int (nI (kt))])), (t0, .inl (cC, 120, .inl gT))]) hP hD hS hA [0, 1, 2, 3, 4] rfl kc_nd_311 rfl
            have hPc := hCu.1
            have hDc := hCu.2.1
            have hFc := hCu.2.2
            have hKc := hK.sb (tys2 := [(c1, .int), (c2, .int), (cC, .char)]) [0, 1, 2] rfl
            refine va_calli (va_runV (As := []) (rest := []) ⟨hx, hb, hml, hown, hts⟩ (s_look4x l dC dI jT t0 cC gT kt hkt hgT bt hbt hb8 jR r1 r2 c1 c2 S1_84 s2 Wr_85 fi q6 q7 bd_92 hfi Pn_86 bd_93 H_89.size) (cwV 0 hts (kG (List.forall_mem_cons.mpr ⟨(List.mem_cons_of_mem _ (List.mem_append_left _ (List.mem_of_getElem? (i := 3) rfl))), (List.forall_mem_cons.mpr ⟨(List.mem_cons_of_mem _ (List.mem_append_left _ (List.mem_of_getElem? (i := 2) rfl))), (List.forall_mem_cons.mpr ⟨(List.mem_cons_of_mem _ (List.mem_append_left _ (List.mem_of_getElem? (i := 1) rfl))), (List.forall_mem_cons.mpr ⟨(List.mem_cons_of_mem _ (List.mem_append_left _ (List.mem_of_getElem? (i := 0) rfl))), (fun _ h => absurd h List.not_mem_nil)⟩)⟩)⟩)⟩) (kGV _ _ _ _) (fun _ h => List.mem_cons_of_mem _ (List.mem_append_right _ (List.mem_append_left _ h))) gw_s_look4x) rfl rfl rfl ⟨rfl, hd_X4_look⟩ ⟨(Nat.le_of_ble_eq_true rfl), (Nat.le_of_ble_eq_true rfl)⟩) (kW_V kT_blind kT_give (va_recv hKc hPc (ci := 4) (q0 := 0) rfl rfl) hPc hKc hDc) rfl rfl hl.1 rfl (lv_room (Nat.le_of_ble_eq_true rfl)) dX4_readClause_83 ⟨(Nat.le_of_ble_eq_true rfl), (Nat.le_of_ble_eq_true rfl)⟩) hS (fun q _ h => hFc q h) hFc (fun r_94 => kU2 (fun Pn_95 ch_96 t H_97 locs ht hvm hw hB hz1 hk1 hS => ?_))
            try dsimp only at hw
            have hPD : kPD dC dI A [(jR, .inr (4, [.ref jT, .ref r1, .ref r2, .int (nI (Wr_85)), .int (nI (fi)), .int (nI (Pn_95)), .ref q6, .ref q7])), (r1, .inl (c1, 120, .inl S1_84)), (r2, .inl (c2, 124, .inl s2)), (jT, .inr (8, [.ref t0, .int (nI (kt))])), (t0, .inl (cC, 120, .inl gT))] H_97 := kJoinX hP hD [0, 1, 2, 3, 4] rfl hk1 hFc hB.1 ht hB.2.2 rfl [some 0, some 1, some 2, some 3, some 4] rfl rfl
            have hP := hPD.1
            have hD := hPD.2
            obtain ⟨rfl, hw_98_0, hw_98_1, hw_98_2, hw_98_3, hw_98_4, hw_98_5, hw_98_6⟩ := hw
            have bd_99 : ch_96 < 256 := by omega
            have hPc := hP.sb (ws2 := []) [] rfl
            have hKc := hK.sb (tys2 := []) [] rfl
            refine vp_callSi (va_runS (As := [.int (nI (ch_96))]) (rest := []) ⟨hx, hb, hml, hown, hts⟩ (s_comp4x l dC dI ch_96 bd_99) (va_cwS 1 hts (kG (List.forall_mem_cons.mpr ⟨(List.mem_cons_of_mem _ (List.mem_append_left _ (List.mem_of_getElem? (i := 34) rfl))), (List.forall_mem_cons.mpr ⟨(List.mem_cons_of_mem _ (List.mem_append_left _ (List.mem_of_getElem? (i := 33) rfl))), (List.forall_mem_cons.mpr ⟨(List.mem_cons_of_mem _ (List.mem_append_left _ (List.mem_of_getElem? (i := 0) rfl))), (fun _ h => absurd h List.not_mem_nil)⟩)⟩)⟩) (kGS _ _ _) (fun _ h => List.mem_cons_of_mem _ (List.mem_append_right _ (List.mem_append_right _ (List.mem_append_right _ (List.mem_append_right _ (List.mem_append_right _ (List.mem_append_right _ (List.mem_append_right _ (List.mem_append_right _ (List.mem_append_left _ h)))))))))) gw_s_comp4x) rfl rfl rfl hd_X4_isComparison ⟨(Nat.le_of_ble_eq_true rfl), (Nat.le_of_ble_eq_true rfl)⟩) (kR_S kT_blind kT_give hPc hKc) rfl rfl hl.1 rfl (lv_room (Nat.le_of_ble_eq_true rfl)) dX4_readClause_86 ⟨(Nat.le_of_ble_eq_true rfl), (Nat.le_of_ble_eq_true rfl)⟩).run (fun r_100 hw => ?_)
            have hw_101 := hw
            refine lv_if_ne (tgt := 100) hx hb dX4_readClause_89 kc_t_89_11 (fun c_102 => ?_) (fun c_102 => ?_)
            · have hcp := hw_101.mp c_102
              refine lv_aload_n hx hb dX4_readClause_100 rfl (lv_at hl 3 rfl) ?_
              refine lv_iconst (v := 0) hx hb dX4_readClause_101 kc_i_0 ?_
              refine lv_iload_n hx hb dX4_readClause_102 rfl (lv_at hl 0 rfl) ?_
              refine lv_if_ne (tgt := 110) hx hb dX4_readClause_103 kc_t_103_7 (fun c_103 => absurd (by decide) c_103) (fun c_103 => ?_)
              refine lv_iconst (v := 1) hx hb dX4_readClause_106 kc_i_1 ?_
              refine lv_goto (tgt := 111) hx hb dX4_readClause_107 kc_t_107_4 ?_
              have bd_104 : Pn_95 ≤ kt := by omega
              have bd_105 : Wr_85 ≤ Pn_95 := by omega
              have hCu := kCut (wc := [(jR, .inr (4, [.ref jT, .ref r1, .ref r2, .int (nI (Wr_85)), .int (nI (fi)), .int (nI (Pn_95)), .ref q6, .ref q7])), (r1, .inl (c1, 120, .inl S1_84)), (r2, .inl (c2, 124, .inl s2)), (jT, .inr (8, [.ref t0, .int (nI (kt))])), (t0, .inl (cC, 120, .inl gT))]) hP hD hS hA [0, 1, 2, 3, 4] rfl kc_nd_311 rfl
              have hPc := hCu.1
              have hDc := hCu.2.1
              have hFc := hCu.2.2
              have hKc := hK.sb (tys2 := [(c1, .int), (c2, .int), (cC, .char)]) [0, 1, 2] rfl
              refine va_calli (va_runV (As := [.int 0, .int 1]) (rest := []) ⟨hx, hb, hml, hown, hts⟩ (s_cond4x_0_1 l dC dI jT t0 cC gT kt hkt hgT bt hbt hb8 jR r1 r2 c1 c2 S1_84 s2 Wr_85 fi q6 q7 bd_92 hfi Pn_95 bd_104 bd_105 b6 n6 g6 hn6 b7 n7 g7 hn7 gn6 hz6 gn7 hz7 H_97.size) (cwV 2 hts (kG (List.forall_mem_cons.mpr ⟨(List.mem_cons_of_mem _ (List.mem_append_left _ (List.mem_of_getElem? (i := 49) rfl))), (List.forall_mem_cons.mpr ⟨(List.mem_cons_of_mem _ (List.mem_append_left _ (List.mem_of_getElem? (i := 48) rfl))), (List.forall_mem_cons.mpr ⟨(List.mem_cons_of_mem _ (List.mem_append_left _ (List.mem_of_getElem? (i := 47) rfl))), (List.forall_mem_cons.mpr ⟨(List.mem_cons_of_mem _ (List.mem_append_left _ (List.mem_of_getElem? (i := 0) rfl))), (fun _ h => absurd h List.not_mem_nil)⟩)⟩)⟩)⟩) (kGV _ _ _ _) (kFam (List.mem_cons_of_mem _ (List.mem_append_left _ (List.mem_of_getElem? (i := 46) rfl)))) gw_s_cond4x_0_1) rfl rfl rfl ⟨rfl, hd_X4_readCondition⟩ ⟨(Nat.le_of_ble_eq_true rfl), (Nat.le_of_ble_eq_true rfl)⟩) (kW_V kS2_blind (kS2_give hX hS hFc) (va_recv hKc hPc (ci := 4) (q0 := 0) rfl rfl) hPc hKc hDc) rfl rfl hl.1 rfl (lv_room (Nat.le_of_ble_eq_true rfl)) dX4_readClause_111 ⟨(Nat.le_of_ble_eq_true rfl), (Nat.le_of_ble_eq_true rfl)⟩) hS (fun q _ h => hFc q h) hFc (fun r_106 => kU5 (fun S1_107 Wr_108 Pn_109 xo_110 xl_111 t H_112 locs ht hvm hw hB hz1 hk1 hS => ?_))
              try dsimp only at hw
              have hPD : kPD dC dI A [(jR, .inr (4, [.ref jT, .ref r1, .ref r2, .int (nI (Wr_108)), .int (nI (fi)), .int (nI (Pn_109)), .ref q6, .ref q7])), (r1, .inl (c1, 120, .inl S1_107)), (r2, .inl (c2, 124, .inl s2)), (jT, .inr (8, [.ref t0, .int (nI (kt))])), (t0, .inl (cC, 120, .inl gT))] H_112 := kJoinX hP hD [0, 1, 2, 3, 4] rfl hk1 hFc hB.1 ht hB.2.2 rfl [some 0, some 1, some 2, some 3, some 4] rfl rfl
              have hP := hPD.1
              have hD := hPD.2
              have hw_113 := hw
              refine lv_if_ne (tgt := 119) hx hb dX4_readClause_114 kc_t_114_5 (fun c_114 => ?_) (fun c_114 => ?_)
              · obtain rfl : xo_110 = true := kBo_t (kNz9 hw_113.1 c_114)
                obtain ⟨hw_113_W, hw_113_S, hw_113_l, hw_113_p⟩ := hw_113.2.1.2.2 rfl
                have hw_113_k := hw_113.2.1.2.1
                refine lv_aload_n hx hb dX4_readClause_119 rfl (lv_at hl 3 rfl) ?_
                refine va_get (D := (dC, dI)) (ci := 4) (v := .int (nI (Wr_108))) (C := RX4) (T := TX4) (N := 8) hx hb hts (fun _ h => List.mem_cons_of_mem _ (List.mem_append_right _ (List.mem_append_right _ (List.mem_append_right _ (List.mem_append_left _ h))))) hown hK hP 0 rfl rfl 3 kc_l_3_8 (hts (.fieldLink RX4 18 "NotEnded$Reader" "written" "I") (List.mem_cons_of_mem _ (List.mem_append_left _ (List.mem_of_getElem? (i := 51) rfl)))) (fun _ h9 => h9) rfl dX4_readClause_120 ?_
                refine lv_istore hx hb dX4_readClause_123 hl kc_l_4_5 (kTo [(4, .int (nI (Wr_108))), (3, .int 0), (2, .int (nI (wr))), (1, .int (nI (j_9))), (0, .ref jR)]) (fun ls hl => ?_)
                refine lv_aload_n hx hb dX4_readClause_125 rfl (lv_at hl 4 rfl) ?_
                refine lv_bipush (v := 63) hx hb dX4_readClause_126 kc_b_63 ?_
                have bd_115 : Wr_108 ≤ 120 := by omega
                have bd_116 : Pn_109 ≤ kt := by omega
                have hCu := kCut (wc := [(jR, .inr (4, [.ref jT, .ref r1, .ref r2, .int (nI (Wr_108)), .int (nI (fi)), .int (nI (Pn_109)), .ref q6, .ref q7])), (r1, .inl (c1, 120, .inl S1_107)), (r2, .inl (c2, 124, .inl s2)), (jT, .inr (8, [.ref t0, .int (nI (kt))])), (t0, .inl (cC, 120, .inl gT))]) hP hD hS hA [0, 1, 2, 3, 4] rfl kc_nd_311 rfl
                have hPc := hCu.1
                have hDc := hCu.2.1
                have hFc := hCu.2.2
                have hKc := hK.sb (tys2 := [(c1, .int), (c2, .int), (cC, .char)]) [0, 1, 2] rfl
                refine va_calli (va_runV (As := [.int 63]) (rest := []) ⟨hx, hb, hml, hown, hts⟩ (s_take4_63 l dC dI jT t0 cC gT kt hkt hgT bt hbt hb8 jR r1 r2 c1 c2 S1_107 s2 Wr_108 fi q6 q7 bd_115 hfi Pn_109 bd_116 H_112.size) (cwV 1 hts (kG (List.forall_mem_cons.mpr ⟨(List.mem_cons_of_mem _ (List.mem_append_left _ (List.mem_of_getElem? (i := 45) rfl))), (List.forall_mem_cons.mpr ⟨(List.mem_cons_of_mem _ (List.mem_append_left _ (List.mem_of_getElem? (i := 44) rfl))), (List.forall_mem_cons.mpr ⟨(List.mem_cons_of_mem _ (List.mem_append_left _ (List.mem_of_getElem? (i := 43) rfl))), (List.forall_mem_cons.mpr ⟨(List.mem_cons_of_mem _ (List.mem_append_left _ (List.mem_of_getElem? (i := 0) rfl))), (fun _ h => absurd h List.not_mem_nil)⟩)⟩)⟩)⟩) (kGV _ _ _ _) (fun _ h => List.mem_cons_of_mem _ (List.mem_append_right _ (List.mem_append_right _ (List.mem_append_right _ (List.mem_append_right _ (List.mem_append_right _ (List.mem_append_right _ (List.mem_append_right _ (List.mem_append_right _ (List.mem_append_right _ (List.mem_append_right _ (List.mem_append_right _ (List.mem_append_right _ (List.mem_append_right _ (List.mem_append_left _ h))))))))))))))) gw_s_take4_63) rfl rfl rfl ⟨rfl, hd_X4_take⟩ ⟨(Nat.le_of_ble_eq_true rfl), (Nat.le_of_ble_eq_true rfl)⟩) (kW_V kT_blind kT_give (va_recv hKc hPc (ci := 4) (q0 := 0) rfl rfl) hPc hKc hDc) rfl rfl hl.1 rfl (lv_room (Nat.le_of_ble_eq_true rfl)) dX4_readClause_128 ⟨(Nat.le_of_ble_eq_true rfl), (Nat.le_of_ble_eq_true rfl)⟩) hS (fun q _ h => hFc q h) hFc (fun r_117 => kU2 (fun Pn_118 xo_119 t H_120 locs ht hvm hw hB hz1 hk1 hS => ?_))
                try dsimp only at hw
                have hPD : kPD dC dI A [(jR, .inr (4, [.ref jT, .ref r1, .ref r2, .int (nI (Wr_108)), .int (nI (fi)), .int (nI (Pn_118)), .ref q6, .ref q7])), (r1, .inl (c1, 120, .inl S1_107)), (r2, .inl (c2, 124, .inl s2)), (jT, .inr (8, [.ref t0, .int (nI (kt))])), (t0, .inl (cC, 120, .inl gT))] H_120 := kJoinX hP hD [0, 1, 2, 3, 4] rfl hk1 hFc hB.1 ht hB.2.2 rfl [some 0, some 1, some 2, some 3, some 4] rfl rfl
                have hP := hPD.1
                have hD := hPD.2
                have hw_121 := hw
                refine lv_if_eq (tgt := 157) hx hb dX4_readClause_131 kc_t_131_26 (fun c_122 => ?_) (fun c_122 => ?_)
                · obtain rfl : xo_119 = false := kBo_f (kZr9 hw_121.1 c_122)
                  have hw_121_k := hw_121.2.2.2.1
                  refine lv_iconst (v := 0) hx hb dX4_readClause_157 kc_i_0 ?_
                  have hP9 := hP
                  have hD9 := hD
                  have hK9 := hK
                  rw [hQ]
                  exact W.zret (v := 0) hx hb hr rfl (fun t ht hW => ⟨⟨0, (S1_107, s2, Wr_108, fi, Pn_118, false, ([]), 0, 0), rfl, ⟨rfl, (by unfold kCla; rw [← hw_5_0, ← hw_5_1]; rw [hj_10, if_pos (by omega), hw_20.2.1, kThC_t]; unfold kCla1; rw [← hw_27_0, ← hw_27_1, if_neg (by omega), hw_90.2.1.1, kThC_t, ← hw_98_0, ← hw_98_1, if_pos (by omega), hw_113.2.1.1, kThC_t]; unfold kCla2; rw [hw_121.2.1]; rfl), by omega, by omega, by omega, fun z => absurd z (by decide)⟩,  by rw [ht]; exact hP9, va_K.moved hW.alike hK9, hD9⟩, hS.F ht⟩) hS.2.2 dX4_readClause_158
                · obtain rfl : xo_119 = true := kBo_t (kNz9 hw_121.1 c_122)
                  have hw_121_p := hw_121.2.2.2.2 rfl
                  have hw_121_k := hw_121.2.2.2.1
                  refine lv_aload_n hx hb dX4_readClause_134 rfl (lv_at hl 4 rfl) ?_
                  refine lv_iconst (v := 0) hx hb dX4_readClause_135 kc_i_0 ?_
                  have bd_123 : Pn_118 ≤ kt := by omega
                  have bd_124 : Wr_108 ≤ Pn_118 := by omega
                  have hCu := kCut (wc := [(jR, .inr (4, [.ref jT, .ref r1, .ref r2, .int (nI (Wr_108)), .int (nI (fi)), .int (nI (Pn_118)), .ref q6, .ref q7])), (r1, .inl (c1, 120, .inl S1_107)), (r2, .inl (c2, 124, .inl s2)), (jT, .inr (8, [.ref t0, .int (nI (kt))])), (t0, .inl (cC, 120, .inl gT))]) hP hD hS hA [0, 1, 2, 3, 4] rfl kc_nd_311 rfl
                  have hPc := hCu.1
                  have hDc := hCu.2.1
                  have hFc := hCu.2.2
                  have hKc := hK.sb (tys2 := [(c1, .int), (c2, .int), (cC, .char)]) [0, 1, 2] rfl
                  refine va_calli (va_runV (As := [.int 0]) (rest := []) ⟨hx, hb, hml, hown, hts⟩ (s_sum4x_0 l dC dI jT t0 cC gT kt hkt hgT bt hbt hb8 jR r1 r2 c1 c2 S1_107 s2 Wr_108 fi q6 q7 bd_115 hfi Pn_118 bd_123 bd_124 b6 n6 g6 hn6 b7 n7 g7 hn7 gn6 hz6 gn7 hz7 H_120.size) (cwV 1 hts (kG (List.forall_mem_cons.mpr ⟨(List.mem_cons_of_mem _ (List.mem_append_left _ (List.mem_of_getElem? (i := 32) rfl))), (List.forall_mem_cons.mpr ⟨(List.mem_cons_of_mem _ (List.mem_append_left _ (List.mem_of_getElem? (i := 31) rfl))), (List.forall_mem_cons.mpr ⟨(List.mem_cons_of_mem _ (List.mem_append_left _ (List.mem_of_getElem? (i := 30) rfl))), (List.forall_mem_cons.mpr ⟨(List.mem_cons_of_mem _ (List.mem_append_left _ (List.mem_of_getElem? (i := 0) rfl))), (fun _ h => absurd h List.not_mem_nil)⟩)⟩)⟩)⟩) (kGV _ _ _ _) (kFam (List.mem_cons_of_mem _ (List.mem_append_left _ (List.mem_of_getElem? (i := 29) rfl)))) gw_s_sum4x_0) rfl rfl rfl ⟨rfl, hd_X4_readSum⟩ ⟨(Nat.le_of_ble_eq_true rfl), (Nat.le_of_ble_eq_true rfl)⟩) (kW_V kS2_blind (kS2_give hX hS hFc) (va_recv hKc hPc (ci := 4) (q0 := 0) rfl rfl) hPc hKc hDc) rfl rfl hl.1 rfl (lv_room (Nat.le_of_ble_eq_true rfl)) dX4_readClause_136 ⟨(Nat.le_of_ble_eq_true rfl), (Nat.le_of_ble_eq_true rfl)⟩) hS (fun q _ h => hFc q h) hFc (fun r_125 => kU5 (fun S1_126 Wr_127 Pn_128 xo_129 xl_130 t H_131 locs ht hvm hw hB hz1 hk1 hS => ?_))
                  try dsimp only at hw
                  have hPD : kPD dC dI A [(jR, .inr (4, [.ref jT, .ref r1, .ref r2, .int (nI (Wr_127)), .int (nI (fi)), .int (nI (Pn_128)), .ref q6, .ref q7])), (r1, .inl (c1, 120, .inl S1_126)), (r2, .inl (c2, 124, .inl s2)), (jT, .inr (8, [.ref t0, .int (nI (kt))])), (t0, .inl (cC, 120, .inl gT))] H_131 := kJoinX hP hD [0, 1, 2, 3, 4] rfl hk1 hFc hB.1 ht hB.2.2 rfl [some 0, some 1, some 2, some 3, some 4] rfl rfl
                  have hP := hPD.1
                  have hD := hPD.2
                  have hw_132 := hw
                  refine lv_if_eq (tgt := 157) hx hb dX4_readClause_139 kc_t_139_18 (fun c_133 => ?_) (fun c_133 => ?_)
                  · obtain rfl : xo_129 = false := kBo_f (kZr9 hw_132.1 c_133)
                    have hw_132_k := hw_132.2.1.2.1
                    refine lv_iconst (v := 0) hx hb dX4_readClause_157 kc_i_0 ?_
                    have hP9 := hP
                    have hD9 := hD
                    have hK9 := hK
                    rw [hQ]
                    exact W.zret (v := 0) hx hb hr rfl (fun t ht hW => ⟨⟨0, (S1_126, s2, Wr_127, fi, Pn_128, false, ([]), 0, 0), rfl, ⟨rfl, (by unfold kCla; rw [← hw_5_0, ← hw_5_1]; rw [hj_10, if_pos (by omega), hw_20.2.1, kThC_t]; unfold kCla1; rw [← hw_27_0, ← hw_27_1, if_neg (by omega), hw_90.2.1.1, kThC_t, ← hw_98_0, ← hw_98_1, if_pos (by omega), hw_113.2.1.1, kThC_t]; unfold kCla2; rw [hw_121.2.1, kThC_t, hw_132.2.1.1]; rfl), by omega, by omega, by omega, fun z => absurd z (by decide)⟩,  by rw [ht]; exact hP9, va_K.moved hW.alike hK9, hD9⟩, hS.F ht⟩) hS.2.2 dX4_readClause_158
                  · obtain rfl : xo_129 = true := kBo_t (kNz9 hw_132.1 c_133)
                    obtain ⟨hw_132_W, hw_132_S, hw_132_l, hw_132_p⟩ := hw_132.2.1.2.2 rfl
                    have hw_132_k := hw_132.2.1.2.1
                    refine lv_aload_n hx hb dX4_readClause_142 rfl (lv_at hl 4 rfl) ?_
                    refine lv_iload_n hx hb dX4_readClause_143 rfl (lv_at hl 3 rfl) ?_
                    refine lv_iload_n hx hb dX4_readClause_144 rfl (lv_at hl 2 rfl) ?_
                    refine lv_iload hx hb dX4_readClause_145 (lv_at hl 0 rfl) ?_
                    have bd_134 : Wr_127 ≤ 120 := by omega
                    have bd_135 : Pn_128 ≤ kt := by omega
                    have hCu := kCut (wc := [(jR, .inr (4, [.ref jT, .ref r1, .ref r2, .int (nI (Wr_127)), .int (nI (fi)), .int (nI (Pn_128)), .ref q6, .ref q7])), (r1, .inl (c1, 120, .inl S1_126)), (r2, .inl (c2, 124, .inl s2)), (jT, .inr (8, [.ref t0, .int (nI (kt))])), (t0, .inl (cC, 120, .inl gT))]) hP hD hS hA [0, 1, 2, 3, 4] rfl kc_nd_311 rfl
                    have hPc := hCu.1
                    have hDc := hCu.2.1
                    have hFc := hCu.2.2
                    have hKc := hK.sb (tys2 := [(c1, .int), (c2, .int), (cC, .char)]) [0, 1, 2] rfl
                    refine va_calli (va_runV (As := [.int (nI (j_9)), .int (nI (wr)), .int (nI (Wr_108))]) (rest := []) ⟨hx, hb, hml, hown, hts⟩ (s_keep4x l dC dI jT t0 cC gT kt hkt hgT bt hbt hb8 jR r1 r2 c1 c2 S1_126 s2 Wr_127 fi q6 q7 bd_134 hfi Pn_128 bd_135 j_9 wr Wr_108 hf9 H_131.size) (cwV 3 hts (kG (List.forall_mem_cons.mpr ⟨(List.mem_cons_of_mem _ (List.mem_append_left _ (List.mem_of_getElem? (i := 54) rfl))), (List.forall_mem_cons.mpr ⟨(List.mem_cons_of_mem _ (List.mem_append_left _ (List.mem_of_getElem? (i := 53) rfl))), (List.forall_mem_cons.mpr ⟨(List.mem_cons_of_mem _ (List.mem_append_left _ (List.mem_of_getElem? (i := 52) rfl))), (List.forall_mem_cons.mpr ⟨(List.mem_cons_of_mem _ (List.mem_append_left _ (List.mem_of_getElem? (i := 0) rfl))), (fun _ h => absurd h List.not_mem_nil)⟩)⟩)⟩)⟩) (kGV _ _ _ _) (fun _ h => List.mem_cons_of_mem _ (List.mem_append_right _ (List.mem_append_right _ (List.mem_append_right _ (List.mem_append_right _ (List.mem_append_right _ (List.mem_append_right _ (List.mem_append_right _ (List.mem_append_right _ (List.mem_append_right _ (List.mem_append_right _ (List.mem_append_right _ (List.mem_append_right _ (List.mem_append_right _ (List.mem_append_right _ h))))))))))))))) gw_s_keep4x) rfl rfl rfl ⟨rfl, hd_X4_keepClause⟩ ⟨(Nat.le_of_ble_eq_true rfl), (Nat.le_of_ble_eq_true rfl)⟩) (kW_V kT_blind kT_give (va_recv hKc hPc (ci := 4) (q0 := 0) rfl rfl) hPc hKc hDc) rfl rfl hl.1 rfl (lv_room (Nat.le_of_ble_eq_true rfl)) dX4_readClause_147 ⟨(Nat.le_of_ble_eq_true rfl), (Nat.le_of_ble_eq_true rfl)⟩) hS (fun q _ h => hFc q h) hFc (fun r_136 => kU2 (fun S2_137 Fi_138 t H_139 locs ht hvm hw hB hz1 hk1 hS => ?_))
                    try dsimp only at hw
                    have hPD : kPD dC dI A [(jR, .inr (4, [.ref jT, .ref r1, .ref r2, .int (nI (Wr_127)), .int (nI (Fi_138)), .int (nI (Pn_128)), .ref q6, .ref q7])), (r1, .inl (c1, 120, .inl S1_126)), (r2, .inl (c2, 124, .inl S2_137)), (jT, .inr (8, [.ref t0, .int (nI (kt))])), (t0, .inl (cC, 120, .inl gT))] H_139 := kJoinX hP hD [0, 1, 2, 3, 4] rfl hk1 hFc hB.1 ht hB.2.2 rfl [some 0, some 1, some 2, some 3, some 4] rfl rfl
                    have hP := hPD.1
                    have hD := hPD.2
                    obtain ⟨rfl, hw_140⟩ := hw
                    refine lv_if_eq (tgt := 157) hx hb dX4_readClause_150 kc_t_150_7 (fun c_141 => absurd c_141 (by decide)) (fun c_141 => ?_)
                    refine lv_iconst (v := 1) hx hb dX4_readClause_153 kc_i_1 ?_
                    refine lv_goto (tgt := 158) hx hb dX4_readClause_154 kc_t_154_4 ?_
                    have hP9 := hP
                    have hD9 := hD
                    have hK9 := hK
                    rw [hQ]
                    exact W.zret (v := 1) hx hb hr rfl (fun t ht hW => ⟨⟨1, (S1_126, S2_137, Wr_127, Fi_138, Pn_128, true, (xl_88 ++ xl_111 ++ xl_130), j_9, ((xl_88 ++ xl_111).length)), rfl, ⟨rfl, (by unfold kCla; rw [← hw_5_0, ← hw_5_1]; rw [hj_10, if_pos (by omega), hw_20.2.1, kThC_t]; unfold kCla1; rw [← hw_27_0, ← hw_27_1, if_neg (by omega), hw_90.2.1.1, kThC_t, ← hw_98_0, ← hw_98_1, if_pos (by omega), hw_113.2.1.1, kThC_t]; unfold kCla2; rw [hw_121.2.1, kThC_t, hw_132.2.1.1, kThC_t]), by omega, by omega, by omega, fun _ => ⟨(by first | omega | (simp only [List.length_append]; omega)), (kWrtC (kWrtC hw_90_S hw_90_W hw_113_S) (by first | omega | (simp only [List.length_append]; omega)) hw_132_S), hw_140.1, kKeep hw_140.2 (by first | omega | (simp only [List.length_append]; omega)) (by first | omega | (simp only [List.length_append]; omega)), (by first | omega | (simp only [List.length_append]; omega)), by omega⟩⟩,  by rw [ht]; exact hP9, va_K.moved hW.alike hK9, hD9⟩, hS.F ht⟩) hS.2.2 dX4_readClause_158
              · obtain rfl : xo_110 = false := kBo_f (kZr9 hw_113.1 c_114)
                have hw_113_k := hw_113.2.1.2.1
                refine lv_iconst (v := 0) hx hb dX4_readClause_117 kc_i_0 ?_
                have hP9 := hP
                have hD9 := hD
                have hK9 := hK
                rw [hQ]
                exact W.zret (v := 0) hx hb hr rfl (fun t ht hW => ⟨⟨0, (S1_107, s2, Wr_108, fi, Pn_109, false, ([]), 0, 0), rfl, ⟨rfl, (by unfold kCla; rw [← hw_5_0, ← hw_5_1]; rw [hj_10, if_pos (by omega), hw_20.2.1, kThC_t]; unfold kCla1; rw [← hw_27_0, ← hw_27_1, if_neg (by omega), hw_90.2.1.1, kThC_t, ← hw_98_0, ← hw_98_1, if_pos (by omega), hw_113.2.1.1]; rfl), by omega, by omega, by omega, fun z => absurd z (by decide)⟩,  by rw [ht]; exact hP9, va_K.moved hW.alike hK9, hD9⟩, hS.F ht⟩) hS.2.2 dX4_readClause_118
            · have hcp : ¬ (ch_96 = 61 ∨ ch_96 = 60 ∨ ch_96 = 62) := fun z9 => hw_101.mpr z9 c_102
              refine lv_aload_n hx hb dX4_readClause_92 rfl (lv_at hl 3 rfl) ?_
              refine lv_iload_n hx hb dX4_readClause_93 rfl (lv_at hl 2 rfl) ?_
              refine lv_iload_n hx hb dX4_readClause_94 rfl (lv_at hl 1 rfl) ?_
              refine lv_iload_n hx hb dX4_readClause_95 rfl (lv_at hl 1 rfl) ?_
              have bd_142 : Pn_95 ≤ kt := by omega
              have hCu := kCut (wc := [(jR, .inr (4, [.ref jT, .ref r1, .ref r2, .int (nI (Wr_85)), .int (nI (fi)), .int (nI (Pn_95)), .ref q6, .ref q7])), (r1, .inl (c1, 120, .inl S1_84)), (r2, .inl (c2, 124, .inl s2)), (jT, .inr (8, [.ref t0, .int (nI (kt))])), (t0, .inl (cC, 120, .inl gT))]) hP hD hS hA [0, 1, 2, 3, 4] rfl kc_nd_311 rfl
              have hPc := hCu.1
              have hDc := hCu.2.1
              have hFc := hCu.2.2
              have hKc := hK.sb (tys2 := [(c1, .int), (c2, .int), (cC, .char)]) [0, 1, 2] rfl
              refine va_calli (va_runV (As := [.int (nI (j_9)), .int (nI (wr)), .int (nI (wr))]) (rest := []) ⟨hx, hb, hml, hown, hts⟩ (s_keep4x l dC dI jT t0 cC gT kt hkt hgT bt hbt hb8 jR r1 r2 c1 c2 S1_84 s2 Wr_85 fi q6 q7 bd_92 hfi Pn_95 bd_142 j_9 wr wr hf9 H_97.size) (cwV 3 hts (kG (List.forall_mem_cons.mpr ⟨(List.mem_cons_of_mem _ (List.mem_append_left _ (List.mem_of_getElem? (i := 54) rfl))), (List.forall_mem_cons.mpr ⟨(List.mem_cons_of_mem _ (List.mem_append_left _ (List.mem_of_getElem? (i := 53) rfl))), (List.forall_mem_cons.mpr ⟨(List.mem_cons_of_mem _ (List.mem_append_left _ (List.mem_of_getElem? (i := 52) rfl))), (List.forall_mem_cons.mpr ⟨(List.mem_cons_of_mem _ (List.mem_append_left _ (List.mem_of_getElem? (i := 0) rfl))), (fun _ h => absurd h List.not_mem_nil)⟩)⟩)⟩)⟩) (kGV _ _ _ _) (fun _ h => List.mem_cons_of_mem _ (List.mem_append_right _ (List.mem_append_right _ (List.mem_append_right _ (List.mem_append_right _ (List.mem_append_right _ (List.mem_append_right _ (List.mem_append_right _ (List.mem_append_right _ (List.mem_append_right _ (List.mem_append_right _ (List.mem_append_right _ (List.mem_append_right _ (List.mem_append_right _ (List.mem_append_right _ h))))))))))))))) gw_s_keep4x) rfl rfl rfl ⟨rfl, hd_X4_keepClause⟩ ⟨(Nat.le_of_ble_eq_true rfl), (Nat.le_of_ble_eq_true rfl)⟩) (kW_V kT_blind kT_give (va_recv hKc hPc (ci := 4) (q0 := 0) rfl rfl) hPc hKc hDc) rfl rfl hl.1 rfl (lv_room (Nat.le_of_ble_eq_true rfl)) dX4_readClause_96 ⟨(Nat.le_of_ble_eq_true rfl), (Nat.le_of_ble_eq_true rfl)⟩) hS (fun q _ h => hFc q h) hFc (fun r_143 => kU2 (fun S2_144 Fi_145 t H_146 locs ht hvm hw hB hz1 hk1 hS => ?_))
              try dsimp only at hw
              have hPD : kPD dC dI A [(jR, .inr (4, [.ref jT, .ref r1, .ref r2, .int (nI (Wr_85)), .int (nI (Fi_145)), .int (nI (Pn_95)), .ref q6, .ref q7])), (r1, .inl (c1, 120, .inl S1_84)), (r2, .inl (c2, 124, .inl S2_144)), (jT, .inr (8, [.ref t0, .int (nI (kt))])), (t0, .inl (cC, 120, .inl gT))] H_146 := kJoinX hP hD [0, 1, 2, 3, 4] rfl hk1 hFc hB.1 ht hB.2.2 rfl [some 0, some 1, some 2, some 3, some 4] rfl rfl
              have hP := hPD.1
              have hD := hPD.2
              obtain ⟨rfl, hw_147⟩ := hw
              have hP9 := hP
              have hD9 := hD
              have hK9 := hK
              rw [hQ]
              exact W.zret (v := 1) hx hb hr rfl (fun t ht hW => ⟨⟨1, (S1_84, S2_144, Wr_85, Fi_145, Pn_95, true, (xl_88), j_9, 0), rfl, ⟨rfl, (by unfold kCla; rw [← hw_5_0, ← hw_5_1]; rw [hj_10, if_pos (by omega), hw_20.2.1, kThC_t]; unfold kCla1; rw [← hw_27_0, ← hw_27_1, if_neg (by omega), hw_90.2.1.1, kThC_t, ← hw_98_0, ← hw_98_1, if_neg (by omega)]), by omega, by omega, by omega, fun _ => ⟨(by first | omega | (simp only [List.length_append]; omega)), hw_90_S, hw_147.1, kKeep hw_147.2 (by first | omega | (simp only [List.length_append]; omega)) (by first | omega | (simp only [List.length_append]; omega)), (by first | omega | (simp only [List.length_append]; omega)), by omega⟩⟩,  by rw [ht]; exact hP9, va_K.moved hW.alike hK9, hD9⟩, hS.F ht⟩) hS.2.2 dX4_readClause_99
          · obtain rfl : xo_87 = false := kBo_f (kZr9 hw_90.1 c_91)
            have hw_90_k := hw_90.2.1.2.1
            refine lv_iconst (v := 0) hx hb dX4_readClause_80 kc_i_0 ?_
            have hP9 := hP
            have hD9 := hD
            have hK9 := hK
            rw [hQ]
            exact W.zret (v := 0) hx hb hr rfl (fun t ht hW => ⟨⟨0, (S1_84, s2, Wr_85, fi, Pn_86, false, ([]), 0, 0), rfl, ⟨rfl, (by unfold kCla; rw [← hw_5_0, ← hw_5_1]; rw [hj_10, if_pos (by omega), hw_20.2.1, kThC_t]; unfold kCla1; rw [← hw_27_0, ← hw_27_1, if_neg (by omega), hw_90.2.1.1]; rfl), by omega, by omega, by omega, fun z => absurd z (by decide)⟩,  by rw [ht]; exact hP9, va_K.moved hW.alike hK9, hD9⟩, hS.F ht⟩) hS.2.2 dX4_readClause_81
        · have hn_148 := keq (a := ch_25) (b := 40) bd_72 kc_31_40 c_79
          refine lv_iconst (v := 1) hx hb dX4_readClause_62 kc_i_1 ?_
          refine lv_goto (tgt := 67) hx hb dX4_readClause_63 kc_t_63_4 ?_
          refine lv_istore_n hx hb dX4_readClause_67 rfl hl kc_l_3_5 (kTo [(3, .int 1), (2, .int (nI (wr))), (1, .int (nI (j_9))), (0, .ref jR)]) (fun ls hl => ?_)
          refine lv_iload_n hx hb dX4_readClause_68 rfl (lv_at hl 0 rfl) ?_
          refine lv_if_ne (tgt := 100) hx hb dX4_readClause_69 kc_t_69_31 (fun c_149 => ?_) (fun c_149 => absurd c_149 (by decide))
          refine lv_aload_n hx hb dX4_readClause_100 rfl (lv_at hl 3 rfl) ?_
          refine lv_iconst (v := 0) hx hb dX4_readClause_101 kc_i_0 ?_
          refine lv_iload_n hx hb dX4_readClause_102 rfl (lv_at hl 0 rfl) ?_
          refine lv_if_ne (tgt := 110) hx hb dX4_readClause_103 kc_t_103_7 (fun c_150 => ?_) (fun c_150 => absurd c_150 (by decide))
          refine lv_iconst (v := 0) hx hb dX4_readClause_110 kc_i_0 ?_
          have bd_151 : wr ≤ Pn_24 := by omega
          have hCu := kCut (wc := [(jR, .inr (4, [.ref jT, .ref r1, .ref r2, .int (nI (wr)), .int (nI (fi)), .int (nI (Pn_24)), .ref q6, .ref q7])), (r1, .inl (c1, 120, .inl s1)), (r2, .inl (c2, 124, .inl s2)), (jT, .inr (8, [.ref t0, .int (nI (kt))])), (t0, .inl (cC, 120, .inl gT))]) hP hD hS hA [0, 1, 2, 3, 4] rfl kc_nd_311 rfl
          have hPc := hCu.1
          have hDc := hCu.2.1
          have hFc := hCu.2.2
          have hKc := hK.sb (tys2 := [(c1, .int), (c2, .int), (cC, .char)]) [0, 1, 2] rfl
          refine va_calli (va_runV (As := [.int 0, .int 0]) (rest := []) ⟨hx, hb, hml, hown, hts⟩ (s_cond4x_0_0 l dC dI jT t0 cC gT kt hkt hgT bt hbt hb8 jR r1 r2 c1 c2 s1 s2 wr fi q6 q7 hwr hfi Pn_24 bd_73 bd_151 b6 n6 g6 hn6 b7 n7 g7 hn7 gn6 hz6 gn7 hz7 H_77.size) (cwV 2 hts (kG (List.forall_mem_cons.mpr ⟨(List.mem_cons_of_mem _ (List.mem_append_left _ (List.mem_of_getElem? (i := 49) rfl))), (List.forall_mem_cons.mpr ⟨(List.mem_cons_of_mem _ (List.mem_append_left _ (List.mem_of_getElem? (i := 48) rfl))), (List.forall_mem_cons.mpr ⟨(List.mem_cons_of_mem _ (List.mem_append_left _ (List.mem_of_getElem? (i := 47) rfl))), (List.forall_mem_cons.mpr ⟨(List.mem_cons_of_mem _ (List.mem_append_left _ (List.mem_of_getElem? (i := 0) rfl))), (fun _ h => absurd h List.not_mem_nil)⟩)⟩)⟩)⟩) (kGV _ _ _ _) (kFam (List.mem_cons_of_mem _ (List.mem_append_left _ (List.mem_of_getElem? (i := 46) rfl)))) gw_s_cond4x_0_0) rfl rfl rfl ⟨rfl, hd_X4_readCondition⟩ ⟨(Nat.le_of_ble_eq_true rfl), (Nat.le_of_ble_eq_true rfl)⟩) (kW_V kS2_blind (kS2_give hX hS hFc) (va_recv hKc hPc (ci := 4) (q0 := 0) rfl rfl) hPc hKc hDc) rfl rfl hl.1 rfl (lv_room (Nat.le_of_ble_eq_true rfl)) dX4_readClause_111 ⟨(Nat.le_of_ble_eq_true rfl), (Nat.le_of_ble_eq_true rfl)⟩) hS (fun q _ h => hFc q h) hFc (fun r_152 => kU5 (fun S1_153 Wr_154 Pn_155 xo_156 xl_157 t H_158 locs ht hvm hw hB hz1 hk1 hS => ?_))
          try dsimp only at hw
          have hPD : kPD dC dI A [(jR, .inr (4, [.ref jT, .ref r1, .ref r2, .int (nI (Wr_154)), .int (nI (fi)), .int (nI (Pn_155)), .ref q6, .ref q7])), (r1, .inl (c1, 120, .inl S1_153)), (r2, .inl (c2, 124, .inl s2)), (jT, .inr (8, [.ref t0, .int (nI (kt))])), (t0, .inl (cC, 120, .inl gT))] H_158 := kJoinX hP hD [0, 1, 2, 3, 4] rfl hk1 hFc hB.1 ht hB.2.2 rfl [some 0, some 1, some 2, some 3, some 4] rfl rfl
          have hP := hPD.1
          have hD := hPD.2
          have hw_159 := hw
          refine lv_if_ne (tgt := 119) hx hb dX4_readClause_114 kc_t_114_5 (fun c_160 => ?_) (fun c_160 => ?_)
          · obtain rfl : xo_156 = true := kBo_t (kNz9 hw_159.1 c_160)
            obtain ⟨hw_159_W, hw_159_S, hw_159_l, hw_159_p⟩ := hw_159.2.1.2.2 rfl
            have hw_159_k := hw_159.2.1.2.1
            refine lv_aload_n hx hb dX4_readClause_119 rfl (lv_at hl 3 rfl) ?_
            refine va_get (D := (dC, dI)) (ci := 4) (v := .int (nI (Wr_154))) (C := RX4) (T := TX4) (N := 8) hx hb hts (fun _ h => List.mem_cons_of_mem _ (List.mem_append_right _ (List.mem_append_right _ (List.mem_append_right _ (List.mem_append_left _ h))))) hown hK hP 0 rfl rfl 3 kc_l_3_8 (hts (.fieldLink RX4 18 "NotEnded$Reader" "written" "I") (List.mem_cons_of_mem _ (List.mem_append_left _ (List.mem_of_getElem? (i := 51) rfl)))) (fun _ h9 => h9) rfl dX4_readClause_120 ?_
            refine lv_istore hx hb dX4_readClause_123 hl kc_l_4_5 (kTo [(4, .int (nI (Wr_154))), (3, .int 1), (2, .int (nI (wr))), (1, .int (nI (j_9))), (0, .ref jR)]) (fun ls hl => ?_)
            refine lv_aload_n hx hb dX4_readClause_125 rfl (lv_at hl 4 rfl) ?_
            refine lv_bipush (v := 63) hx hb dX4_readClause_126 kc_b_63 ?_
            have bd_161 : Wr_154 ≤ 120 := by omega
            have bd_162 : Pn_155 ≤ kt := by omega
            have hCu := kCut (wc := [(jR, .inr (4, [.ref jT, .ref r1, .ref r2, .int (nI (Wr_154)), .int (nI (fi)), .int (nI (Pn_155)), .ref q6, .ref q7])), (r1, .inl (c1, 120, .inl S1_153)), (r2, .inl (c2, 124, .inl s2)), (jT, .inr (8, [.ref t0, .int (nI (kt))])), (t0, .inl (cC, 120, .inl gT))]) hP hD hS hA [0, 1, 2, 3, 4] rfl kc_nd_311 rfl
            have hPc := hCu.1
            have hDc := hCu.2.1
            have hFc := hCu.2.2
            have hKc := hK.sb (tys2 := [(c1, .int), (c2, .int), (cC, .char)]) [0, 1, 2] rfl
            refine va_calli (va_runV (As := [.int 63]) (rest := []) ⟨hx, hb, hml, hown, hts⟩ (s_take4_63 l dC dI jT t0 cC gT kt hkt hgT bt hbt hb8 jR r1 r2 c1 c2 S1_153 s2 Wr_154 fi q6 q7 bd_161 hfi Pn_155 bd_162 H_158.size) (cwV 1 hts (kG (List.forall_mem_cons.mpr ⟨(List.mem_cons_of_mem _ (List.mem_append_left _ (List.mem_of_getElem? (i := 45) rfl))), (List.forall_mem_cons.mpr ⟨(List.mem_cons_of_mem _ (List.mem_append_left _ (List.mem_of_getElem? (i := 44) rfl))), (List.forall_mem_cons.mpr ⟨(List.mem_cons_of_mem _ (List.mem_append_left _ (List.mem_of_getElem? (i := 43) rfl))), (List.forall_mem_cons.mpr ⟨(List.mem_cons_of_mem _ (List.mem_append_left _ (List.mem_of_getElem? (i := 0) rfl))), (fun _ h => absurd h List.not_mem_nil)⟩)⟩)⟩)⟩) (kGV _ _ _ _) (fun _ h => List.mem_cons_of_mem _ (List.mem_append_right _ (List.mem_append_right _ (List.mem_append_right _ (List.mem_append_right _ (List.mem_append_right _ (List.mem_append_right _ (List.mem_append_right _ (List.mem_append_right _ (List.mem_append_right _ (List.mem_append_right _ (List.mem_append_right _ (List.mem_append_right _ (List.mem_append_right _ (List.mem_append_left _ h))))))))))))))) gw_s_take4_63) rfl rfl rfl ⟨rfl, hd_X4_take⟩ ⟨(Nat.le_of_ble_eq_true rfl), (Nat.le_of_ble_eq_true rfl)⟩) (kW_V kT_blind kT_give (va_recv hKc hPc (ci := 4) (q0 := 0) rfl rfl) hPc hKc hDc) rfl rfl hl.1 rfl (lv_room (Nat.le_of_ble_eq_true rfl)) dX4_readClause_128 ⟨(Nat.le_of_ble_eq_true rfl), (Nat.le_of_ble_eq_true rfl)⟩) hS (fun q _ h => hFc q h) hFc (fun r_163 => kU2 (fun Pn_164 xo_165 t H_166 locs ht hvm hw hB hz1 hk1 hS => ?_))
            try dsimp only at hw
            have hPD : kPD dC dI A [(jR, .inr (4, [.ref jT, .ref r1, .ref r2, .int (nI (Wr_154)), .int (nI (fi)), .int (nI (Pn_164)), .ref q6, .ref q7])), (r1, .inl (c1, 120, .inl S1_153)), (r2, .inl (c2, 124, .inl s2)), (jT, .inr (8, [.ref t0, .int (nI (kt))])), (t0, .inl (cC, 120, .inl gT))] H_166 := kJoinX hP hD [0, 1, 2, 3, 4] rfl hk1 hFc hB.1 ht hB.2.2 rfl [some 0, some 1, some 2, some 3, some 4] rfl rfl
            have hP := hPD.1
            have hD := hPD.2
            have hw_167 := hw
            refine lv_if_eq (tgt := 157) hx hb dX4_readClause_131 kc_t_131_26 (fun c_168 => ?_) (fun c_168 => ?_)
            · obtain rfl : xo_165 = false := kBo_f (kZr9 hw_167.1 c_168)
              have hw_167_k := hw_167.2.2.2.1
              refine lv_iconst (v := 0) hx hb dX4_readClause_157 kc_i_0 ?_
              have hP9 := hP
              have hD9 := hD
              have hK9 := hK
              rw [hQ]
              exact W.zret (v := 0) hx hb hr rfl (fun t ht hW => ⟨⟨0, (S1_153, s2, Wr_154, fi, Pn_164, false, ([]), 0, 0), rfl, ⟨rfl, (by unfold kCla; rw [← hw_5_0, ← hw_5_1]; rw [hj_10, if_pos (by omega), hw_20.2.1, kThC_t]; unfold kCla1; rw [← hw_27_0, ← hw_27_1, if_pos (by omega), hw_159.2.1.1, kThC_t]; unfold kCla2; rw [hw_167.2.1]; rfl), by omega, by omega, by omega, fun z => absurd z (by decide)⟩,  by rw [ht]; exact hP9, va_K.moved hW.alike hK9, hD9⟩, hS.F ht⟩) hS.2.2 dX4_readClause_158
            · obtain rfl : xo_165 = true := kBo_t (kNz9 hw_167.1 c_168)
              have hw_167_p := hw_167.2.2.2.2 rfl
              have hw_167_k := hw_167.2.2.2.1
              refine lv_aload_n hx hb dX4_readClause_134 rfl (lv_at hl 4 rfl) ?_
              refine lv_iconst (v := 0) hx hb dX4_readClause_135 kc_i_0 ?_
              have bd_169 : Pn_164 ≤ kt := by omega
              have bd_170 : Wr_154 ≤ Pn_164 := by omega
              have hCu := kCut (wc := [(jR, .inr (4, [.ref jT, .ref r1, .ref r2, .int (nI (Wr_154)), .int (nI (fi)), .int (nI (Pn_164)), .ref q6, .ref q7])), (r1, .inl (c1, 120, .inl S1_153)), (r2, .inl (c2, 124, .inl s2)), (jT, .inr (8, [.ref t0, .int (nI (kt))])), (t0, .inl (cC, 120, .inl gT))]) hP hD hS hA [0, 1, 2, 3, 4] rfl kc_nd_311 rfl
              have hPc := hCu.1
              have hDc := hCu.2.1
              have hFc := hCu.2.2
              have hKc := hK.sb (tys2 := [(c1, .int), (c2, .int), (cC, .char)]) [0, 1, 2] rfl
              refine va_calli (va_runV (As := [.int 0]) (rest := []) ⟨hx, hb, hml, hown, hts⟩ (s_sum4x_0 l dC dI jT t0 cC gT kt hkt hgT bt hbt hb8 jR r1 r2 c1 c2 S1_153 s2 Wr_154 fi q6 q7 bd_161 hfi Pn_164 bd_169 bd_170 b6 n6 g6 hn6 b7 n7 g7 hn7 gn6 hz6 gn7 hz7 H_166.size) (cwV 1 hts (kG (List.forall_mem_cons.mpr ⟨(List.mem_cons_of_mem _ (List.mem_append_left _ (List.mem_of_getElem? (i := 32) rfl))), (List.forall_mem_cons.mpr ⟨(List.mem_cons_of_mem _ (List.mem_append_left _ (List.mem_of_getElem? (i := 31) rfl))), (List.forall_mem_cons.mpr ⟨(List.mem_cons_of_mem _ (List.mem_append_left _ (List.mem_of_getElem? (i := 30) rfl))), (List.forall_mem_cons.mpr ⟨(List.mem_cons_of_mem _ (List.mem_append_left _ (List.mem_of_getElem? (i := 0) rfl))), (fun _ h => absurd h List.not_mem_nil)⟩)⟩)⟩)⟩) (kGV _ _ _ _) (kFam (List.mem_cons_of_mem _ (List.mem_append_left _ (List.mem_of_getElem? (i := 29) rfl)))) gw_s_sum4x_0) rfl rfl rfl ⟨rfl, hd_X4_readSum⟩ ⟨(Nat.le_of_ble_eq_true rfl), (Nat.le_of_ble_eq_true rfl)⟩) (kW_V kS2_blind (kS2_give hX hS hFc) (va_recv hKc hPc (ci := 4) (q0 := 0) rfl rfl) hPc hKc hDc) rfl rfl hl.1 rfl (lv_room (Nat.le_of_ble_eq_true rfl)) dX4_readClause_136 ⟨(Nat.le_of_ble_eq_true rfl), (Nat.le_of_ble_eq_true rfl)⟩) hS (fun q _ h => hFc q h) hFc (fun r_171 => kU5 (fun S1_172 Wr_173 Pn_174 xo_175 xl_176 t H_177 locs ht hvm hw hB hz1 hk1 hS => ?_))
              try dsimp only at hw
              have hPD : kPD dC dI A [(jR, .inr (4, [.ref jT, .ref r1, .ref r2, .int (nI (Wr_173)), .int (nI (fi)), .int (nI (Pn_174)), .ref q6, .ref q7])), (r1, .inl (c1, 120, .inl S1_172)), (r2, .inl (c2, 124, .inl s2)), (jT, .inr (8, [.ref t0, .int (nI (kt))])), (t0, .inl (cC, 120, .inl gT))] H_177 := kJoinX hP hD [0, 1, 2, 3, 4] rfl hk1 hFc hB.1 ht hB.2.2 rfl [some 0, some 1, some 2, some 3, some 4] rfl rfl
              have hP := hPD.1
              have hD := hPD.2
              have hw_178 := hw
              refine lv_if_eq (tgt := 157) hx hb dX4_readClause_139 kc_t_139_18 (fun c_179 => ?_) (fun c_179 => ?_)
              · obtain rfl : xo_175 = false := kBo_f (kZr9 hw_178.1 c_179)
                have hw_178_k := hw_178.2.1.2.1
                refine lv_iconst (v := 0) hx hb dX4_readClause_157 kc_i_0 ?_
                have hP9 := hP
                have hD9 := hD
                have hK9 := hK
                rw [hQ]
                exact W.zret (v := 0) hx hb hr rfl (fun t ht hW => ⟨⟨0, (S1_172, s2, Wr_173, fi, Pn_174, false, ([]), 0, 0), rfl, ⟨rfl, (by unfold kCla; rw [← hw_5_0, ← hw_5_1]; rw [hj_10, if_pos (by omega), hw_20.2.1, kThC_t]; unfold kCla1; rw [← hw_27_0, ← hw_27_1, if_pos (by omega), hw_159.2.1.1, kThC_t]; unfold kCla2; rw [hw_167.2.1, kThC_t, hw_178.2.1.1]; rfl), by omega, by omega, by omega, fun z => absurd z (by decide)⟩,  by rw [ht]; exact hP9, va_K.moved hW.alike hK9, hD9⟩, hS.F ht⟩) hS.2.2 dX4_readClause_158
              · obtain rfl : xo_175 = true := kBo_t (kNz9 hw_178.1 c_179)
                obtain ⟨hw_178_W, hw_178_S, hw_178_l, hw_178_p⟩ := hw_178.2.1.2.2 rfl
                have hw_178_k := hw_178.2.1.2.1
                refine lv_aload_n hx hb dX4_readClause_142 rfl (lv_at hl 4 rfl) ?_
                refine lv_iload_n hx hb dX4_readClause_143 rfl (lv_at hl 3 rfl) ?_
                refine lv_iload_n hx hb dX4_readClause_144 rfl (lv_at hl 2 rfl) ?_
                refine lv_iload hx hb dX4_readClause_145 (lv_at hl 0 rfl) ?_
                have bd_180 : Wr_173 ≤ 120 := by omega
                have bd_181 : Pn_174 ≤ kt := by omega
                have hCu := kCut (wc := [(jR, .inr (4, [.ref jT, .ref r1, .ref r2, .int (nI (Wr_173)), .int (nI (fi)), .int (nI (Pn_174)), .ref q6, .ref q7])), (r1, .inl (c1, 120, .inl S1_172)), (r2, .inl (c2, 124, .inl s2)), (jT, .inr (8, [.ref t0, .int (nI (kt))])), (t0, .inl (cC, 120, .inl gT))]) hP hD hS hA [0, 1, 2, 3, 4] rfl kc_nd_311 rfl
                have hPc := hCu.1
                have hDc := hCu.2.1
                have hFc := hCu.2.2
                have hKc := hK.sb (tys2 := [(c1, .int), (c2, .int), (cC, .char)]) [0, 1, 2] rfl
                refine va_calli (va_runV (As := [.int (nI (j_9)), .int (nI (wr)), .int (nI (Wr_154))]) (rest := []) ⟨hx, hb, hml, hown, hts⟩ (s_keep4x l dC dI jT t0 cC gT kt hkt hgT bt hbt hb8 jR r1 r2 c1 c2 S1_172 s2 Wr_173 fi q6 q7 bd_180 hfi Pn_174 bd_181 j_9 wr Wr_154 hf9 H_177.size) (cwV 3 hts (kG (List.forall_mem_cons.mpr ⟨(List.mem_cons_of_mem _ (List.mem_append_left _ (List.mem_of_getElem? (i := 54) rfl))), (List.forall_mem_cons.mpr ⟨(List.mem_cons_of_mem _ (List.mem_append_left _ (List.mem_of_getElem? (i := 53) rfl))), (List.forall_mem_cons.mpr ⟨(List.mem_cons_of_mem _ (List.mem_append_left _ (List.mem_of_getElem? (i := 52) rfl))), (List.forall_mem_cons.mpr ⟨(List.mem_cons_of_mem _ (List.mem_append_left _ (List.mem_of_getElem? (i := 0) rfl))), (fun _ h => absurd h List.not_mem_nil)⟩)⟩)⟩)⟩) (kGV _ _ _ _) (fun _ h => List.mem_cons_of_mem _ (List.mem_append_right _ (List.mem_append_right _ (List.mem_append_right _ (List.mem_append_right _ (List.mem_append_right _ (List.mem_append_right _ (List.mem_append_right _ (List.mem_append_right _ (List.mem_append_right _ (List.mem_append_right _ (List.mem_append_right _ (List.mem_append_right _ (List.mem_append_right _ (List.mem_append_right _ h))))))))))))))) gw_s_keep4x) rfl rfl rfl ⟨rfl, hd_X4_keepClause⟩ ⟨(Nat.le_of_ble_eq_true rfl), (Nat.le_of_ble_eq_true rfl)⟩) (kW_V kT_blind kT_give (va_recv hKc hPc (ci := 4) (q0 := 0) rfl rfl) hPc hKc hDc) rfl rfl hl.1 rfl (lv_room (Nat.le_of_ble_eq_true rfl)) dX4_readClause_147 ⟨(Nat.le_of_ble_eq_true rfl), (Nat.le_of_ble_eq_true rfl)⟩) hS (fun q _ h => hFc q h) hFc (fun r_182 => kU2 (fun S2_183 Fi_184 t H_185 locs ht hvm hw hB hz1 hk1 hS => ?_))
                try dsimp only at hw
                have hPD : kPD dC dI A [(jR, .inr (4, [.ref jT, .ref r1, .ref r2, .int (nI (Wr_173)), .int (nI (Fi_184)), .int (nI (Pn_174)), .ref q6, .ref q7])), (r1, .inl (c1, 120, .inl S1_172)), (r2, .inl (c2, 124, .inl S2_183)), (jT, .inr (8, [.ref t0, .int (nI (kt))])), (t0, .inl (cC, 120, .inl gT))] H_185 := kJoinX hP hD [0, 1, 2, 3, 4] rfl hk1 hFc hB.1 ht hB.2.2 rfl [some 0, some 1, some 2, some 3, some 4] rfl rfl
                have hP := hPD.1
                have hD := hPD.2
                obtain ⟨rfl, hw_186⟩ := hw
                refine lv_if_eq (tgt := 157) hx hb dX4_readClause_150 kc_t_150_7 (fun c_187 => absurd c_187 (by decide)) (fun c_187 => ?_)
                refine lv_iconst (v := 1) hx hb dX4_readClause_153 kc_i_1 ?_
                refine lv_goto (tgt := 158) hx hb dX4_readClause_154 kc_t_154_4 ?_
                have hP9 := hP
                have hD9 := hD
                have hK9 := hK
                rw [hQ]
                exact W.zret (v := 1) hx hb hr rfl (fun t ht hW => ⟨⟨1, (S1_172, S2_183, Wr_173, Fi_184, Pn_174, true, (xl_157 ++ xl_176), j_9, ((xl_157).length)), rfl, ⟨rfl, (by unfold kCla; rw [← hw_5_0, ← hw_5_1]; rw [hj_10, if_pos (by omega), hw_20.2.1, kThC_t]; unfold kCla1; rw [← hw_27_0, ← hw_27_1, if_pos (by omega), hw_159.2.1.1, kThC_t]; unfold kCla2; rw [hw_167.2.1, kThC_t, hw_178.2.1.1, kThC_t]), by omega, by omega, by omega, fun _ => ⟨(by first | omega | (simp only [List.length_append]; omega)), (kWrtC hw_159_S hw_159_W hw_178_S), hw_186.1, kKeep hw_186.2 (by first | omega | (simp only [List.length_append]; omega)) (by first | omega | (simp only [List.length_append]; omega)), (by first | omega | (simp only [List.length_append]; omega)), by omega⟩⟩,  by rw [ht]; exact hP9, va_K.moved hW.alike hK9, hD9⟩, hS.F ht⟩) hS.2.2 dX4_readClause_158
          · obtain rfl : xo_156 = false := kBo_f (kZr9 hw_159.1 c_160)
            have hw_159_k := hw_159.2.1.2.1
            refine lv_iconst (v := 0) hx hb dX4_readClause_117 kc_i_0 ?_
            have hP9 := hP
            have hD9 := hD
            have hK9 := hK
            rw [hQ]
            exact W.zret (v := 0) hx hb hr rfl (fun t ht hW => ⟨⟨0, (S1_153, s2, Wr_154, fi, Pn_155, false, ([]), 0, 0), rfl, ⟨rfl, (by unfold kCla; rw [← hw_5_0, ← hw_5_1]; rw [hj_10, if_pos (by omega), hw_20.2.1, kThC_t]; unfold kCla1; rw [← hw_27_0, ← hw_27_1, if_pos (by omega), hw_159.2.1.1]; rfl), by omega, by omega, by omega, fun z => absurd z (by decide)⟩,  by rw [ht]; exact hP9, va_K.moved hW.alike hK9, hD9⟩, hS.F ht⟩) hS.2.2 dX4_readClause_118
    · obtain rfl : xo_18 = false := kBo_f (kZr9 hw_20.1 c_21)
      have hw_20_k := hw_20.2.2.2.1
      refine lv_iconst (v := 0) hx hb dX4_readClause_37 kc_i_0 ?_
      have hP9 := hP
      have hD9 := hD
      have hK9 := hK
      rw [hQ]
      exact W.zret (v := 0) hx hb hr rfl (fun t ht hW => ⟨⟨0, (s1, s2, wr, fi, Pn_17, false, ([]), 0, 0), rfl, ⟨rfl, (by unfold kCla; rw [← hw_5_0, ← hw_5_1]; rw [hj_10, if_pos (by omega), hw_20.2.1]; rfl), by omega, by omega, by omega, fun z => absurd z (by decide)⟩,  by rw [ht]; exact hP9, va_K.moved hW.alike hK9, hD9⟩, hS.F ht⟩) hS.2.2 dX4_readClause_38

theorem kTk_at {b : Nat → Nat} {n c p q P : Nat} {o : Bool} (hn : n ≤ 120) (hp : p = kSp b n q) (h : kTk b n c p [] = (o, P, [])) : (o = true → kLk b n q = c ∧ P = p + 1) ∧ (o = false → ¬ kLk b n q = c ∧ P = p) := by
  subst hp
  unfold kTk at h
  rw [kLk_sp hn, kSp_sp hn] at h
  by_cases z : kLk b n q = c
  · rw [if_pos z] at h
    have h1 := (Prod.mk.inj h).1
    have h2 := (Prod.mk.inj (Prod.mk.inj h).2).1
    exact ⟨fun _ => ⟨z, h2.symm⟩, fun e => (Bool.false_ne_true (e.symm.trans h1.symm)).elim⟩
  · rw [if_neg z] at h
    have h1 := (Prod.mk.inj h).1
    have h2 := (Prod.mk.inj (Prod.mk.inj h).2).1
    exact ⟨fun e => (Bool.false_ne_true (h1.trans e)).elim, fun _ => ⟨z, h2.symm⟩⟩
