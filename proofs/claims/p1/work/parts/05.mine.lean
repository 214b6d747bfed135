/-! Our own small kit: contracts' starts and ends in two forms. kR: nothing is written; kW: cells change or come. -/
theorem goodIn_sub {big ws : List Cond} (hm : ∀ w ∈ ws, w ∈ big) (h : ws.all goodWord = true) : GoodIn big ws := fun w hw => ⟨hm w hw, good_of_word (List.all_eq_true.mp h w hw)⟩
theorem kG {big a b : List Cond} (ha : ∀ w ∈ a, w ∈ big) (hga : a.all goodWord = true) (hb : ∀ w ∈ b, w ∈ big) (hgb : b.all goodWord = true) : GoodIn big (a ++ b) := fun w h => (List.mem_append.mp h).elim (goodIn_sub ha hga w) (goodIn_sub hb hgb w)
abbrev vwCl : List vw_C := [(RX0, TX0, 5), (RX1, TX1, 19), (RX2, TX2, 8), (RX3, TX3, 6), (RX4, TX4, 8), (RX5, TX5, 2), (RX6, TX6, 2), (RX7, TX7, 2), (RX8, TX8, 2), (RX9, TX9, 10), (RX10, TX10, 52)]
def kT : State → Prop := fun _ => True
theorem kT_blind : ∀ (U : State) (g : JFrame) (mk : MethodId) (a : Array Value), kT U → kT (U.calling g mk a) := fun _ _ _ _ _ => trivial
theorem kT_give {s : State} {H : Heap} : ∀ U : State, U.heap = H → s.WarmedH U.vm → kT U := fun _ _ _ => trivial
def kR (dC : Nat → ClassId) (dI : Nat → Nat → Nat) (av : List Value) (W : va_W) (T : List (ClassId × FieldType)) (X : State → Prop) : Array Value → State → Prop := fun v U => v = av.toArray ∧ va_P (dC, dI) vwCl W U.heap ∧ va_K (dC, dI) vwCl T U ∧ X U
def kW (dC : Nat → ClassId) (dI : Nat → Nat → Nat) (av : List Value) (W : va_W) (T : List (ClassId × FieldType)) (X : State → Prop) (sz : Nat) : Array Value → State → Prop := fun v U => v = av.toArray ∧ U.heap.size = sz ∧ va_P (dC, dI) vwCl W U.heap ∧ va_K (dC, dI) vwCl T U ∧ va_D (fun _ => True) W ∧ X U
def kB (dC : Nat → ClassId) (dI : Nat → Nat → Nat) (W : va_W) (T : List (ClassId × FieldType)) (A : Nat → Prop) (t : State) : Prop := va_P (dC, dI) vwCl W t.heap ∧ va_K (dC, dI) vwCl T t ∧ va_D A W
theorem kR_blind {dC : Nat → ClassId} {dI : Nat → Nat → Nat} {av : List Value} {W : va_W} {T : List (ClassId × FieldType)} {X : State → Prop} (hX : ∀ (U : State) (g : JFrame) (mk : MethodId) (a : Array Value), X U → X (U.calling g mk a)) : FrameBlind (kR dC dI av W T X) := fun a U g mk q => by
  obtain ⟨q0, qP, qK, qX⟩ := q
  exact ⟨q0, qP, va_K.moved (u := U) (U := U.calling g mk a) (Vm.Alike.refl U.vm) qK, hX _ _ _ _ qX⟩
theorem kW_blind {dC : Nat → ClassId} {dI : Nat → Nat → Nat} {av : List Value} {W : va_W} {T : List (ClassId × FieldType)} {X : State → Prop} {sz : Nat} (hX : ∀ (U : State) (g : JFrame) (mk : MethodId) (a : Array Value), X U → X (U.calling g mk a)) : FrameBlind (kW dC dI av W T X sz) := fun a U g mk q => by
  obtain ⟨q0, q1, qP, qK, qD, qX⟩ := q
  exact ⟨q0, q1, qP, va_K.moved (u := U) (U := U.calling g mk a) (Vm.Alike.refl U.vm) qK, qD, hX _ _ _ _ qX⟩
section KPre
variable {s : State} {H : Heap} {dC : Nat → ClassId} {dI : Nat → Nat → Nat} {av : List Value} {W : va_W} {T : List (ClassId × FieldType)} {X : State → Prop} {A : Nat → Prop} {C : String} {b : Addr}
theorem kR_S (hb : ∀ (U : State) (g : JFrame) (mk : MethodId) (a : Array Value), X U → X (U.calling g mk a)) (hX : ∀ U : State, U.heap = H → s.WarmedH U.vm → X U) (hP : va_P (dC, dI) vwCl W H) (hK : va_K (dC, dI) vwCl T s) : PreS s H (kR dC dI av W T X) av :=
  ⟨kR_blind hb, fun U hU hW => ⟨rfl, by rw [hU]; exact hP, va_K.moved hW.alike hK, hX U hU hW⟩⟩
theorem kR_V (hb : ∀ (U : State) (g : JFrame) (mk : MethodId) (a : Array Value), X U → X (U.calling g mk a)) (hX : ∀ U : State, U.heap = H → s.WarmedH U.vm → X U) (hc : ∃ cellB : Cell, H[b]? = some cellB ∧ cellB.vm.isStatics = false ∧ s.vm.findClass C = some cellB.cls) (hP : va_P (dC, dI) vwCl W H) (hK : va_K (dC, dI) vwCl T s) : PreV s H C b (kR dC dI (.ref b :: av) W T X) av :=
  ⟨kR_blind hb, hc, fun U hU hW => ⟨rfl, by rw [hU]; exact hP, va_K.moved hW.alike hK, hX U hU hW⟩⟩
theorem kW_S (hb : ∀ (U : State) (g : JFrame) (mk : MethodId) (a : Array Value), X U → X (U.calling g mk a)) (hX : ∀ U : State, U.heap = H → s.WarmedH U.vm → X U) (hP : va_P (dC, dI) vwCl W H) (hK : va_K (dC, dI) vwCl T s) (hD : va_D A W) : PreS s H (kW dC dI av W T X H.size) av :=
  ⟨kW_blind hb, fun U hU hW => ⟨rfl, by rw [hU], by rw [hU]; exact hP, va_K.moved hW.alike hK, hD.weaken (fun _ _ _ _ => trivial), hX U hU hW⟩⟩
theorem kW_V (hb : ∀ (U : State) (g : JFrame) (mk : MethodId) (a : Array Value), X U → X (U.calling g mk a)) (hX : ∀ U : State, U.heap = H → s.WarmedH U.vm → X U) (hc : ∃ cellB : Cell, H[b]? = some cellB ∧ cellB.vm.isStatics = false ∧ s.vm.findClass C = some cellB.cls) (hP : va_P (dC, dI) vwCl W H) (hK : va_K (dC, dI) vwCl T s) (hD : va_D A W) : PreV s H C b (kW dC dI (.ref b :: av) W T X H.size) av :=
  ⟨kW_blind hb, hc, fun U hU hW => ⟨rfl, by rw [hU], by rw [hU]; exact hP, va_K.moved hW.alike hK, hD.weaken (fun _ _ _ _ => trivial), hX U hU hW⟩⟩
end KPre
/-- a number within two bounds -/
def kIn (v lo hi : Int32) : Int32 := if v < lo then 0 else if hi < v then 0 else 1
/-- a byte of a word, as the reference shifts it -/
def kS (x k : Int32) : Int32 := (x >>> (k &&& 31)) &&& 255
def kC1 (x k : Int32) : Nat := if kS x k = 0 then 0 else 1
/-- how many bytes of a word are not 0 -/
def kCnt (x : Int32) : Nat := kC1 x 24 + kC1 x 16 + kC1 x 8 + kC1 x 0
theorem kC1_le (x k : Int32) : kC1 x k ≤ 1 := by unfold kC1; split <;> omega
theorem kCnt_le (x : Int32) : kCnt x ≤ 4 := by
  have h1 := kC1_le x 24; have h2 := kC1_le x 16; have h3 := kC1_le x 8; have h4 := kC1_le x 0
  unfold kCnt; omega
def kFeed (a b c d e : Int32) : Int32 := nI (kCnt a + kCnt b + kCnt c + kCnt d + kCnt e)
theorem kSu_255 : ∀ j : Fin 32, 8 ≤ j.val → (255#32).getLsbD j.val = false := by decide
theorem kSu_aux (x : BitVec 32) (k : Nat) (hk : k + 8 ≤ 32) : (x >>> k) &&& 255#32 = (x.sshiftRight k) &&& 255#32 := by
  ext i hi
  simp only [BitVec.getElem_and, BitVec.getElem_ushiftRight, BitVec.getElem_sshiftRight]
  by_cases h8 : i < 8
  · rw [dif_pos (by omega)]
    simp [BitVec.getLsbD_eq_getElem (show k + i < 32 by omega)]
  · have h2 : (255#32)[i] = false := by
      have h3 := kSu_255 ⟨i, hi⟩ (by simpa using h8)
      rw [← BitVec.getLsbD_eq_getElem]
      exact h3
    rw [h2, Bool.and_false, Bool.and_false]
theorem kSu24 (x : Int32) : (x.toUInt32 >>> (Int32.toUInt32 24 &&& Int32.toUInt32 31)).toInt32 &&& 255 = kS x 24 := Int32.toBitVec_inj.mp (kSu_aux x.toBitVec 24 (by decide))
theorem kSu16 (x : Int32) : (x.toUInt32 >>> (Int32.toUInt32 16 &&& Int32.toUInt32 31)).toInt32 &&& 255 = kS x 16 := Int32.toBitVec_inj.mp (kSu_aux x.toBitVec 16 (by decide))
theorem kSu8 (x : Int32) : (x.toUInt32 >>> (Int32.toUInt32 8 &&& Int32.toUInt32 31)).toInt32 &&& 255 = kS x 8 := Int32.toBitVec_inj.mp (kSu_aux x.toBitVec 8 (by decide))
theorem kSu0 (x : Int32) : (x.toUInt32 >>> (Int32.toUInt32 0 &&& Int32.toUInt32 31)).toInt32 &&& 255 = kS x 0 := Int32.toBitVec_inj.mp (kSu_aux x.toBitVec 0 (by decide))
/-- what person answers first of all -/
def kPerson (a b c : Int32) : Int32 := if kIn a 0 100 = 0 then -1 else if kIn b 0 99 = 0 then -1 else if kIn c 0 3 = 0 then -1 else 0
def kWord (h : Int32) : Int32 := if kIn h 0 47 = 0 then -1 else 1
def kEnd (n : Int32) : Int32 := if n < 0 then 0 else if n ≤ 0 then 1 else 0
def kCount (p : Int32) : Int32 := if p.toInt < 0 ∨ 6 < p.toInt then -1 else 0
theorem kSw7 (x : Int32) : x = 0 ∨ x = 1 ∨ x = 2 ∨ x = 3 ∨ x = 4 ∨ x = 5 ∨ x = 6 ∨ (x.toInt < 0 ∨ 6 < x.toInt) := by
  by_cases h : x.toInt < 0 ∨ 6 < x.toInt
  · simp [h]
  · have h1 : 0 ≤ x.toInt ∧ x.toInt ≤ 6 := by omega
    have : x.toInt = 0 ∨ x.toInt = 1 ∨ x.toInt = 2 ∨ x.toInt = 3 ∨ x.toInt = 4 ∨ x.toInt = 5 ∨ x.toInt = 6 := by omega
    rcases this with e | e | e | e | e | e | e
    · exact Or.inl (Int32.toInt_inj.mp e)
    · exact Or.inr (Or.inl (Int32.toInt_inj.mp e))
    · exact Or.inr (Or.inr (Or.inl (Int32.toInt_inj.mp e)))
    · exact Or.inr (Or.inr (Or.inr (Or.inl (Int32.toInt_inj.mp e))))
    · exact Or.inr (Or.inr (Or.inr (Or.inr (Or.inl (Int32.toInt_inj.mp e)))))
    · exact Or.inr (Or.inr (Or.inr (Or.inr (Or.inr (Or.inl (Int32.toInt_inj.mp e))))))
    · exact Or.inr (Or.inr (Or.inr (Or.inr (Or.inr (Or.inr (Or.inl (Int32.toInt_inj.mp e)))))))
/-- the link by which Tape calls its host -/
def kN19 (U : State) : Prop := va_Nw (.methodLinkNest RX8 19 yX9_within RX9) U
theorem kN19_blind : ∀ (U : State) (g : JFrame) (mk : MethodId) (a : Array Value), kN19 U → kN19 (U.calling g mk a) := fun U _ _ _ h => va_Nw.same (u := U) rfl rfl h
theorem kN19_give {s : State} {H : Heap} (h : kN19 s) : ∀ U : State, U.heap = H → s.WarmedH U.vm → kN19 U := fun _ _ hW => va_Nw.warmM hW h
def kSort (p : Int32) : Int32 := if p = 0 then 1 else if p = 1 then 1 else 0
theorem kIn_nar (a b c : Int32) : narrow .boolean (.int (kIn a b c)) = .int (kIn a b c) := by
  unfold kIn
  split
  · rfl
  · split <;> rfl
/-- where the text constants lie -/
def kLit (ad : Nat → Nat) (U : State) : Prop := vk_R RX4 28 "" (ad 0) U ∧ vk_R RX4 41 "ygx" (ad 1) U ∧ vk_R RX4 43 "w" (ad 2) U ∧ vk_R RX4 45 "vpnmsudi" (ad 3) U ∧ vk_R RX4 47 "abcde" (ad 4) U ∧ vk_R RX10 26 "ygx" (ad 5) U ∧ vk_R RX10 229 "w" (ad 6) U ∧ vk_R RX10 32 "vpnmsudi" (ad 7) U ∧ vk_R RX10 231 "abcde" (ad 8) U
theorem kLit_same {ad : Nat → Nat} {u U : State} (hv : U.vm = u.vm) (h : kLit ad u) : kLit ad U := by
  obtain ⟨h0, h1, h2, h3, h4, h5, h6, h7, h8⟩ := h
  exact ⟨h0.same hv, h1.same hv, h2.same hv, h3.same hv, h4.same hv, h5.same hv, h6.same hv, h7.same hv, h8.same hv⟩
theorem kLit_warm {ad : Nat → Nat} {s U : State} (hW : s.WarmedH U.vm) (h : kLit ad s) : kLit ad U := by
  obtain ⟨h0, h1, h2, h3, h4, h5, h6, h7, h8⟩ := h
  exact ⟨h0.warm hW, h1.warm hW, h2.warm hW, h3.warm hW, h4.warm hW, h5.warm hW, h6.warm hW, h7.warm hW, h8.warm hW⟩
theorem kLit_blind {ad : Nat → Nat} : ∀ (U : State) (g : JFrame) (mk : MethodId) (a : Array Value), kLit ad U → kLit ad (U.calling g mk a) := fun _ _ _ _ h => kLit_same rfl h
theorem kLit_give {ad : Nat → Nat} {s : State} {H : Heap} (h : kLit ad s) : ∀ U : State, U.heap = H → s.WarmedH U.vm → kLit ad U := fun _ _ hW => kLit_warm hW h
def kAO (U : State) : Prop := va_AO RX6 U
theorem kAO_blind : ∀ (U : State) (g : JFrame) (mk : MethodId) (a : Array Value), kAO U → kAO (U.calling g mk a) := fun U _ _ _ h => va_AO.moved (u := U) (Vm.Alike.refl U.vm) h
theorem kAO_give {s : State} {H : Heap} (h : kAO s) : ∀ U : State, U.heap = H → s.WarmedH U.vm → kAO U := fun _ _ hW => va_AO.moved hW.alike h
/-- what the class's maker needs: text constants, the array class of rules, the links to its nest mates -/
def kNew (ad : Nat → Nat) (U : State) : Prop := kLit ad U ∧ kAO U ∧ va_Nw (.methodLinkNest RX9 11 yX8_init RX9) U ∧ va_Nw (.methodLinkNest RX9 27 yX5_init RX9) U ∧ va_Nw (.methodLinkNest RX9 46 yX2_init RX9) U ∧ va_Nw (.methodLinkNest RX9 62 yX3_init RX9) U ∧ va_Nw (.methodLinkNest RX9 69 yX0_init RX9) U
theorem kNew_blind {ad : Nat → Nat} : ∀ (U : State) (g : JFrame) (mk : MethodId) (a : Array Value), kNew ad U → kNew ad (U.calling g mk a) := fun U g mk a h => by
  obtain ⟨h0, h1, h2, h3, h4, h5, h6⟩ := h
  exact ⟨kLit_blind _ _ _ _ h0, kAO_blind _ _ _ _ h1, va_Nw.same (u := U) rfl rfl h2, va_Nw.same (u := U) rfl rfl h3, va_Nw.same (u := U) rfl rfl h4, va_Nw.same (u := U) rfl rfl h5, va_Nw.same (u := U) rfl rfl h6⟩
theorem kNew_give {ad : Nat → Nat} {s : State} {H : Heap} (h : kNew ad s) : ∀ U : State, U.heap = H → s.WarmedH U.vm → kNew ad U := fun U hU hW => by
  obtain ⟨h0, h1, h2, h3, h4, h5, h6⟩ := h
  exact ⟨kLit_give h0 U hU hW, kAO_give h1 U hU hW, va_Nw.warmM hW h2, va_Nw.warmM hW h3, va_Nw.warmM hW h4, va_Nw.warmM hW h5, va_Nw.warmM hW h6⟩
theorem kA_char (n : Nat) : ∀ cA : ClassId, vp_cell cA (n, .inl (fun _ => 0)) = arrV cA n (fun _ => defaultValue .char) := fun _ => rfl
theorem kA_int (n : Nat) : ∀ cA : ClassId, vp_cell cA (n, .inl (fun _ => 0)) = arrV cA n (fun _ => defaultValue .int) := fun _ => rfl
theorem kA_byte (n : Nat) : ∀ cA : ClassId, vp_cell cA (n, .inl (fun _ => 0)) = arrV cA n (fun _ => defaultValue .byte) := fun _ => rfl
theorem kA_boolean (n : Nat) : ∀ cA : ClassId, vp_cell cA (n, .inl (fun _ => 0)) = arrV cA n (fun _ => defaultValue .boolean) := fun _ => rfl
theorem kA_long (n : Nat) : ∀ cA : ClassId, vp_cell cA (n, .inr (.inl (fun _ => 0))) = arrV cA n (fun _ => defaultValue .long) := fun _ => rfl
