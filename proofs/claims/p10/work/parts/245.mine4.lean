/-- kl texts on a shelf: each is a rule whose three cells lie in the heap, none of them in A -/
def kSh (dC : Nat → ClassId) (dI : Nat → Nat → Nat) (kl : Nat) (gL : Nat → Option Nat) (yL : Nat → List kTr) (M9 : Nat) (A : Nat → Prop) (U : State) : Prop := ∀ j : Nat, j < kl → ∃ (ru sA cl : Nat) (cS cc : ClassId) (nS nC : Nat) (gS gC : Nat → Int32), gL j = some ru ∧ kRu (yL j) M9 nS nC gS gC ∧ nS ≤ 200 ∧ nC ≤ 200 ∧ va_K (dC, dI) vwCl [(cS, .int), (cc, .int)] U ∧ (va_P (dC, dI) vwCl [(ru, .inr (6, [.ref sA, .ref cl])), (sA, .inl (cS, nS, .inl gS)), (cl, .inl (cc, nC, .inl gC))] U.heap ∧ ∀ (k : Nat) (q : Nat × va_E), ([(ru, .inr (6, [.ref sA, .ref cl])), (sA, .inl (cS, nS, .inl gS)), (cl, .inl (cc, nC, .inl gC))] : va_W)[k]? = some q → ¬ A q.1)
theorem kSh_blind {dC : Nat → ClassId} {dI : Nat → Nat → Nat} {kl : Nat} {gL : Nat → Option Nat} {yL : Nat → List kTr} {M9 : Nat} {A : Nat → Prop} : ∀ (U : State) (g : JFrame) (mk : MethodId) (a : Array Value), kSh dC dI kl gL yL M9 A U → kSh dC dI kl gL yL M9 A (U.calling g mk a) := fun U g mk a h j hj => by
  obtain ⟨ru, sA, cl, cS, cc, nS, nC, gS, gC, e1, hy, h1, h2, h3, h4⟩ := h j hj
  exact ⟨ru, sA, cl, cS, cc, nS, nC, gS, gC, e1, hy, h1, h2, va_K.moved (u := U) (U := U.calling g mk a) (Vm.Alike.refl U.vm) h3, h4⟩
/-- both shelves, and the links of nest mates -/
def kPub (dC : Nat → ClassId) (dI : Nat → Nat → Nat) (kl : Nat) (gL : Nat → Option Nat) (yL : Nat → List kTr) (ku : Nat) (gU : Nat → Option Nat) (yU : Nat → List kTr) (A : Nat → Prop) (U : State) : Prop := (kSh dC dI kl gL yL 8 A U ∧ kSh dC dI ku gU yU 5 A U) ∧ kNL U
theorem kPub_blind {dC : Nat → ClassId} {dI : Nat → Nat → Nat} {kl : Nat} {gL : Nat → Option Nat} {yL : Nat → List kTr} {ku : Nat} {gU : Nat → Option Nat} {yU : Nat → List kTr} {A : Nat → Prop} : ∀ (U : State) (g : JFrame) (mk : MethodId) (a : Array Value), kPub dC dI kl gL yL ku gU yU A U → kPub dC dI kl gL yL ku gU yU A (U.calling g mk a) := fun U g mk a h => ⟨⟨kSh_blind U g mk a h.1.1, kSh_blind U g mk a h.1.2⟩, kNL_blind U g mk a h.2⟩
/-- arrays of ints can be cloned -/
def kCl (U : State) : Prop := va_Nw (.castable "[I" "java/lang/Cloneable") U
theorem kCl_blind : ∀ (U : State) (g : JFrame) (mk : MethodId) (a : Array Value), kCl U → kCl (U.calling g mk a) := fun U _ _ _ h => va_Nw.same (u := U) rfl rfl h
theorem kCl_give {s : State} {H : Heap} (h : kCl s) : ∀ U : State, U.heap = H → s.WarmedH U.vm → kCl U := fun _ _ hW => va_Nw.warmC hW h
/-- a shelf after a text: as before, or one rule more, of three cells that are new -/
def kShN (dC : Nat → ClassId) (dI : Nat → Nat → Nat) (kl : Nat) (gL : Nat → Option Nat) (kl1 : Nat) (gL1 : Nat → Option Nat) (Y9 : List kTr) (M9 : Nat) (sz : Nat) (t : State) : Prop := (kl1 = kl ∧ gL1 = gL) ∨ (kl1 = kl + 1 ∧ ∃ (ru sA cl : Nat) (cS cc : ClassId) (nS nC : Nat) (gS gC : Nat → Int32), gL1 = va_up gL kl (some ru) ∧ kRu Y9 M9 nS nC gS gC ∧ nS ≤ 200 ∧ nC ≤ 200 ∧ va_K (dC, dI) vwCl [(cS, .int), (cc, .int)] t ∧ va_P (dC, dI) vwCl [(ru, .inr (6, [.ref sA, .ref cl])), (sA, .inl (cS, nS, .inl gS)), (cl, .inl (cc, nC, .inl gC))] t.heap ∧ sz ≤ ru ∧ sz ≤ sA ∧ sz ≤ cl)
theorem kA_int (n : Nat) : ∀ cA : ClassId, vp_cell cA (n, .inl (fun _ => 0)) = arrV cA n (fun _ => defaultValue .int) := fun _ => rfl
theorem kA_char (n : Nat) : ∀ cA : ClassId, vp_cell cA (n, .inl (fun _ => 0)) = arrV cA n (fun _ => defaultValue .char) := fun _ => rfl
theorem kA_byte (n : Nat) : ∀ cA : ClassId, vp_cell cA (n, .inl (fun _ => 0)) = arrV cA n (fun _ => defaultValue .byte) := fun _ => rfl
theorem kA_boolean (n : Nat) : ∀ cA : ClassId, vp_cell cA (n, .inl (fun _ => 0)) = arrV cA n (fun _ => defaultValue .boolean) := fun _ => rfl
theorem kA_long (n : Nat) : ∀ cA : ClassId, vp_cell cA (n, .inr (.inl (fun _ => 0))) = arrV cA n (fun _ => defaultValue .long) := fun _ => rfl
def kWordA (p : Int32) (kw : Nat) : Int32 := if kIn p 0 47 = 0 then -1 else if kw < 4 then nI (kw + 1) else -1
def kWordN (p : Int32) (kw : Nat) : Nat := if kIn p 0 47 = 0 then kw else if kw < 4 then kw + 1 else kw
def kPn (p : Int32) (k : Nat) : Int32 := if p < 0 then 0 else if p < nI k then 1 else 0
def kPerA (p q u : Int32) (k : Nat) : Int32 := if kIn p 0 100 = 0 then -1 else if kIn q 0 99 = 0 then -1 else if kIn u 0 3 = 0 then -1 else if k < 10 then nI k else -1
def kPerN (p q u : Int32) (k : Nat) : Nat := if kIn p 0 100 = 0 then k else if kIn q 0 99 = 0 then k else if kIn u 0 3 = 0 then k else if k < 10 then k + 1 else k
theorem kPerN_b {p q u : Int32} {k : Nat} (h : k ≤ 10) : k ≤ kPerN p q u k ∧ kPerN p q u k ≤ 10 := by
  unfold kPerN
  split
  · omega
  · split
    · omega
    · split
      · omega
      · split <;> omega
def kKnow (a b : Int32) (k : Nat) : Int32 := if kPn a k = 0 then 0 else if kPn b k = 0 then 0 else if a = b then 0 else 1
def kNoteK (k v o : Int32) : Int32 := if k = 0 then (if kIn v 0 100 = 0 then 0 else if kIn o 0 50 = 0 then 0 else 1) else if k = 1 then kIn v (-1) 3 else 0
def kNoteA (p h k v o : Int32) (ks kn : Nat) : Int32 := if kPn p ks = 0 then -1 else if kIn h 0 48 = 0 then -1 else if kNoteK k v o = 0 then -1 else if kn < 20 then nI (kn + 1) else -1
def kNoteN (p h k v o : Int32) (ks kn : Nat) : Nat := if kPn p ks = 0 then kn else if kIn h 0 48 = 0 then kn else if kNoteK k v o = 0 then kn else if kn < 20 then kn + 1 else kn
def kLetsA (p o : Int32) (ku : Nat) (y : Nat → List kTr) : Int32 := if kPn p ku = 0 then -1 else if kIn o 0 31 = 0 then -1 else kLet o (y (Int32.toNatClampNeg p))
def kBol (a b : Nat) : Int32 := if a = b then 0 else if a &&& b = b then 1 else 0
def kBolA (p q : Int32) (ku : Nat) (y : Nat → List kTr) : Int32 := if kPn p ku = 0 then -1 else if kPn q ku = 0 then -1 else kBol (kBar (y (Int32.toNatClampNeg p))) (kBar (y (Int32.toNatClampNeg q)))
def kIsB (a b : Int32) : Int32 := if (a >>> (b &&& 31)) &&& 1 = 0 then 0 else 1
theorem kIsB_F : ∀ (v : Fin 1024) (j : Fin 10), kIsB (nI v.val) (nI j.val) = if v.val.testBit j.val then 1 else 0 := by decide +kernel
theorem kIsB_n {v j : Nat} (hv : v < 1024) (hj : j < 10) : kIsB (nI v) (nI j) = if v.testBit j then 1 else 0 := kIsB_F ⟨v, hv⟩ ⟨j, hj⟩
def kActK (k x p : Int32) (ks : Nat) : Int32 := if k = 0 then kIn x 0 99 else if k = 1 then kIn x 0 3 else if k = 2 then (if kPn x ks = 0 then 0 else if x = p then 0 else 1) else 0
def kActA (p k x c : Int32) (ks : Nat) (se : Int32) (ka : Nat) : Int32 := if kPn p ks = 0 then -1 else if ¬ se = 0 then -1 else if kIn c 1 50 = 0 then -1 else if kActK k x p ks = 0 then -1 else if ka < 6 then nI ka else -1
def kActN (p k x c : Int32) (ks : Nat) (se : Int32) (ka : Nat) : Nat := if kPn p ks = 0 then ka else if ¬ se = 0 then ka else if kIn c 1 50 = 0 then ka else if kActK k x p ks = 0 then ka else if ka < 6 then ka + 1 else ka
def kSnN (p q u w : Int32) (k sv : Nat) : Nat := if kPerN p q u k = k then sv else if w = 0 then sv else sv ||| 2 ^ k
def kSen (p q u w : Int32) (k : Nat) (f : Nat → Int32) : Nat → Int32 := if kPerN p q u k = k then f else upd f k (vp_nar .boolean w)
theorem kPerN_or (p q u : Int32) (k : Nat) : kPerN p q u k = k ∨ (kPerN p q u k = k + 1 ∧ k < 10) := by
  unfold kPerN
  split
  · exact Or.inl rfl
  · split
    · exact Or.inl rfl
    · split
      · exact Or.inl rfl
      · split
        · exact Or.inr ⟨rfl, by assumption⟩
        · exact Or.inl rfl
theorem kSe_new {p q u w : Int32} (hw : w = 0 ∨ w = 1) {ks sv : Nat} {f : Nat → Int32} (hks : ks ≤ 10) (hsv : sv < 1024) (hb : sv < 2 ^ ks) (H : ∀ j : Nat, j < ks → (f j = 0 ↔ kIsB (nI sv) (nI j) = 0)) : (∀ j : Nat, j < kPerN p q u ks → (kSen p q u w ks f j = 0 ↔ kIsB (nI (kSnN p q u w ks sv)) (nI j) = 0)) ∧ kSnN p q u w ks sv < 2 ^ kPerN p q u ks := by
  rcases kPerN_or p q u ks with e | ⟨e, hk⟩
  · unfold kSen kSnN
    rw [e, if_pos rfl, if_pos rfl]
    exact ⟨H, hb⟩
  · have hne : ¬ ks + 1 = ks := by omega
    unfold kSen kSnN
    rw [e, if_neg hne, if_neg hne]
    have hp : 2 ^ ks < 2 ^ (ks + 1) := by rw [Nat.pow_succ]; have := Nat.one_le_two_pow (n := ks); omega
    have hlt : sv ||| 2 ^ ks < 2 ^ (ks + 1) := Nat.or_lt_two_pow (by omega) hp
    have h10 : 2 ^ (ks + 1) ≤ 1024 := (Nat.pow_le_pow_right (by decide) (by omega) : 2 ^ (ks + 1) ≤ 2 ^ 10)
    have hz : sv.testBit ks = false := Nat.testBit_lt_two_pow hb
    constructor
    · intro j hj
      by_cases ej : j = ks
      · subst ej
        have eu : upd f j (vp_nar .boolean w) j = vp_nar .boolean w := by unfold upd; rw [if_pos rfl]
        rw [eu]
        rcases hw with rfl | rfl
        · rw [if_pos rfl, kIsB_n hsv (by omega), hz]
          exact ⟨fun _ => rfl, fun _ => rfl⟩
        · rw [if_neg (by decide), kIsB_n (by omega) (by omega), Nat.testBit_or, Nat.testBit_two_pow_self, Bool.or_true]
          exact ⟨fun z => absurd z (by decide), fun z => absurd z (by decide)⟩
      · have eu : upd f ks (vp_nar .boolean w) j = f j := by unfold upd; rw [if_neg ej]
        rw [eu, H j (by omega)]
        rcases hw with rfl | rfl
        · rw [if_pos rfl]
        · rw [if_neg (by decide), kIsB_n hsv (by omega), kIsB_n (by omega) (by omega), Nat.testBit_or, Nat.testBit_two_pow_of_ne (by omega), Bool.or_false]
    · rcases hw with rfl | rfl
      · rw [if_pos rfl]; omega
      · rw [if_neg (by decide)]; exact hlt
theorem kAct_se {p k x c se s2 : Int32} {ks ka : Nat} (H : ¬ kPn p ks = 0 → (se = 0 ↔ s2 = 0)) : kActA p k x c ks se ka = kActA p k x c ks s2 ka ∧ kActN p k x c ks se ka = kActN p k x c ks s2 ka := by
  unfold kActA kActN
  by_cases h : kPn p ks = 0
  · rw [if_pos h, if_pos h, if_pos h, if_pos h]; exact ⟨rfl, rfl⟩
  · rw [if_neg h, if_neg h, if_neg h, if_neg h]
    by_cases z : se = 0
    · rw [if_neg (not_not_intro z), if_neg (not_not_intro z), if_neg (not_not_intro ((H h).mp z)), if_neg (not_not_intro ((H h).mp z))]; exact ⟨rfl, rfl⟩
    · have y : ¬ s2 = 0 := fun y => z ((H h).mpr y)
      rw [if_pos z, if_pos z, if_pos y, if_pos y]; exact ⟨rfl, rfl⟩
theorem kActN_le {p k x c se : Int32} {ks ka : Nat} (h : ka ≤ 6) : kActN p k x c ks se ka ≤ 6 := by
  unfold kActN
  split
  · exact h
  · split
    · exact h
    · split
      · exact h
      · split
        · exact h
        · split <;> omega
/-- the class's texts, its nest mates' links, and that arrays can be cloned -/
def kTxt (ad : Nat → Nat) (bA nA : Nat) (xA : Nat → Int32) (bB nB : Nat) (xB : Nat → Int32) (bE nE : Nat) (xE : Nat → Int32) (bG nG : Nat) (xG : Nat → Int32) (A : Nat → Prop) (U : State) : Prop := kRd ad 1 3 bA nA xA bB nB xB A U ∧ kRd ad 2 4 bE nE xE bG nG xG A U ∧ kNL U ∧ kCl U
theorem kTxt_blind {ad : Nat → Nat} {bA nA : Nat} {xA : Nat → Int32} {bB nB : Nat} {xB : Nat → Int32} {bE nE : Nat} {xE : Nat → Int32} {bG nG : Nat} {xG : Nat → Int32} {A : Nat → Prop} : ∀ (U : State) (g : JFrame) (mk : MethodId) (a : Array Value), kTxt ad bA nA xA bB nB xB bE nE xE bG nG xG A U → kTxt ad bA nA xA bB nB xB bE nE xE bG nG xG A (U.calling g mk a) := fun U g mk a h => ⟨kRd_blind U g mk a h.1, kRd_blind U g mk a h.2.1, kNL_blind U g mk a h.2.2.1, kCl_blind U g mk a h.2.2.2⟩
theorem kTxt_give {ad : Nat → Nat} {bA nA : Nat} {xA : Nat → Int32} {bB nB : Nat} {xB : Nat → Int32} {bE nE : Nat} {xE : Nat → Int32} {bG nG : Nat} {xG : Nat → Int32} {A B : Nat → Prop} {s : State} {H : Heap} {locs : List Loc} (h : kTxt ad bA nA xA bB nB xB bE nE xE bG nG xG A s) (hS : va_S A s.heap H locs) (hB : ∀ q, B q → A q) : ∀ U : State, U.heap = H → s.WarmedH U.vm → kTxt ad bA nA xA bB nB xB bE nE xE bG nG xG B U := fun U hU hW => ⟨kRd_give h.1 hS hB U hU hW, kRd_give h.2.1 hS hB U hU hW, kNL_give h.2.2.1 U hU hW, kCl_give h.2.2.2 U hU hW⟩
def kSayA (p t : Int32) (ks ku : Nat) : Int32 := if kPn p ks = 0 then 0 else if t = -1 then 1 else kPn t ku
