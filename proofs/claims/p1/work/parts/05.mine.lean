/-! Our own small kit: contracts' starts and ends in two forms. kR: nothing is written; kW: cells change or come. -/
theorem goodIn_sub {big ws : List Cond} (hm : ∀ w ∈ ws, w ∈ big) (h : ws.all goodWord = true) : GoodIn big ws := fun w hw => ⟨hm w hw, good_of_word (List.all_eq_true.mp h w hw)⟩
theorem kG {big a b : List Cond} (ha : ∀ w ∈ a, w ∈ big) (hga : a.all goodWord = true) (hb : ∀ w ∈ b, w ∈ big) (hgb : b.all goodWord = true) : GoodIn big (a ++ b) := fun w h => (List.mem_append.mp h).elim (goodIn_sub ha hga w) (goodIn_sub hb hgb w)
abbrev vwCl : List vw_C := [(RX0, TX0, 5), (RX1, TX1, 19), (RX2, TX2, 8), (RX3, TX3, 6), (RX4, TX4, 8), (RX5, TX5, 2), (RX6, TX6, 2), (RX7, TX7, 2), (RX8, TX8, 2), (RX9, TX9, 10), (RX10, TX10, 52)]
def kT : State → Prop := fun _ => True
theorem kT_blind : ∀ (U : State) (g : JFrame) (mk : MethodId) (a : Array Value), kT U → kT (U.calling g mk a) := fun _ _ _ _ _ => trivial
theorem kT_give {s : State} {H : Heap} : ∀ U : State, U.heap = H → s.WarmedH U.vm → kT U := fun _ _ _ => trivial
def kR (dC : Nat → ClassId) (dI : Nat → Nat → Nat) (av : List Value) (W : va_W) (T : List (ClassId × FieldType)) (X : State → Prop) : Array Value → State → Prop := fun v U => v = av.toArray ∧ va_P (dC, dI) vwCl W U.heap ∧ va_K (dC, dI) vwCl T U ∧ X U
def kW (dC : Nat → ClassId) (dI : Nat → Nat → Nat) (av : List Value) (W : va_W) (T : List (ClassId × FieldType)) (X : State → Prop) (sz : Nat) : Array Value → State → Prop := fun v U => v = av.toArray ∧ U.heap.size = sz ∧ va_P (dC, dI) vwCl W U.heap ∧ va_K (dC, dI) vwCl T U ∧ va_D (fun _ => True) W ∧ X U
def kB (dC : Nat → ClassId) (dI : Nat → Nat → Nat) (W : va_W) (T : List (ClassId × FieldType)) (A : Nat → Prop) (t : State) : Prop := va_P (dC, dI) vwCl W t.heap ∧ va_K (dC, dI) vwCl T t ∧ va_D A W
theorem kR_blind {dC : Nat → ClassId} {dI : Nat → Nat → Nat} {av : List Value} {W : va_W} {T : List (ClassId × FieldType)} {X : State → Prop} (hX : ∀ (U : State) (g : JFrame) (mk : MethodId) (a : Array Value), X U → X (U.calling g mk a)) : FrameBlind (kR dC dI av W T X) := fun a U g mk q => by
  obtain ⟨q0, qP, qK, qX⟩ := q
  exact ⟨q0, qP, va_K.moved (u := U) (U := U.calling g mk a) (Vm.Alike.refl U.vm) qK, hX _ _ _ _ qX⟩
theorem kW_blind {dC : Nat → ClassId} {dI : Nat → Nat → Nat} {av : List Value} {W : va_W} {T : List (ClassId × FieldType)} {X : State → Prop} {sz : Nat} (hX : ∀ (U : State) (g : JFrame) (mk : MethodId) (a : Array Value), X U → X (U.calling g mk a)) : FrameBlind (kW dC dI av W T X sz) := fun a U g mk q => by
  obtain ⟨q0, q1, qP, qK, qD, qX⟩ := q
  exact ⟨q0, q1, qP, va_K.moved (u := U) (U := U.calling g mk a) (Vm.Alike.refl U.vm) qK, qD, hX _ _ _ _ qX⟩
section KPre
variable {s : State} {H : Heap} {dC : Nat → ClassId} {dI : Nat → Nat → Nat} {av : List Value} {W : va_W} {T : List (ClassId × FieldType)} {X : State → Prop} {A : Nat → Prop} {C : String} {b : Addr}
theorem kR_S (hb : ∀ (U : State) (g : JFrame) (mk : MethodId) (a : Array Value), X U → X (U.calling g mk a)) (hX : ∀ U : State, U.heap = H → s.WarmedH U.vm → X U) (hP : va_P (dC, dI) vwCl W H) (hK : va_K (dC, dI) vwCl T s) : PreS s H (kR dC dI av W T X) av :=
  ⟨kR_blind hb, fun U hU hW => ⟨rfl, by rw [hU]; exact hP, va_K.moved hW.alike hK, hX U hU hW⟩⟩
theorem kR_V (hb : ∀ (U : State) (g : JFrame) (mk : MethodId) (a : Array Value), X U → X (U.calling g mk a)) (hX : ∀ U : State, U.heap = H → s.WarmedH U.vm → X U) (hc : ∃ cellB : Cell, H[b]? = some cellB ∧ cellB.vm.isStatics = false ∧ s.vm.findClass C = some cellB.cls) (hP : va_P (dC, dI) vwCl W H) (hK : va_K (dC, dI) vwCl T s) : PreV s H C b (kR dC dI (.ref b :: av) W T X) av :=
  ⟨kR_blind hb, hc, fun U hU hW => ⟨rfl, by rw [hU]; exact hP, va_K.moved hW.alike hK, hX U hU hW⟩⟩
theorem kW_S (hb : ∀ (U : State) (g : JFrame) (mk : MethodId) (a : Array Value), X U → X (U.calling g mk a)) (hX : ∀ U : State, U.heap = H → s.WarmedH U.vm → X U) (hP : va_P (dC, dI) vwCl W H) (hK : va_K (dC, dI) vwCl T s) (hD : va_D A W) : PreS s H (kW dC dI av W T X H.size) av :=
  ⟨kW_blind hb, fun U hU hW => ⟨rfl, by rw [hU], by rw [hU]; exact hP, va_K.moved hW.alike hK, hD.weaken (fun _ _ _ _ => trivial), hX U hU hW⟩⟩
theorem kW_V (hb : ∀ (U : State) (g : JFrame) (mk : MethodId) (a : Array Value), X U → X (U.calling g mk a)) (hX : ∀ U : State, U.heap = H → s.WarmedH U.vm → X U) (hc : ∃ cellB : Cell, H[b]? = some cellB ∧ cellB.vm.isStatics = false ∧ s.vm.findClass C = some cellB.cls) (hP : va_P (dC, dI) vwCl W H) (hK : va_K (dC, dI) vwCl T s) (hD : va_D A W) : PreV s H C b (kW dC dI (.ref b :: av) W T X H.size) av :=
  ⟨kW_blind hb, hc, fun U hU hW => ⟨rfl, by rw [hU], by rw [hU]; exact hP, va_K.moved hW.alike hK, hD.weaken (fun _ _ _ _ => trivial), hX U hU hW⟩⟩
end KPre
/-- a number within two bounds -/
def kIn (v lo hi : Int32) : Int32 := if v < lo then 0 else if hi < v then 0 else 1
