theorem nI_or (a b : Nat) : nI a ||| nI b = nI (a ||| b) := Int32.toBitVec_inj.mp (by show BitVec.ofNat 32 a ||| BitVec.ofNat 32 b = BitVec.ofNat 32 (a ||| b); exact BitVec.ofNat_or.symm)
theorem kShlF : ∀ k : Fin 31, (1 : Int32) <<< (nI k.val &&& 31) = nI (2 ^ k.val) := by decide +kernel
theorem kShl {n : Nat} (h : n < 31) : (1 : Int32) <<< (nI n &&& 31) = nI (2 ^ n) := kShlF ⟨n, h⟩
theorem kOr6 {a b : Nat} (ha : a < 64) (hb : b < 6) : a ||| (2 ^ b) < 64 := Nat.or_lt_two_pow (n := 6) ha (Nat.pow_lt_pow_right (by decide) hb)
theorem kOr10 {a b : Nat} (ha : a < 1024) (hb : b < 10) : a ||| (2 ^ b) < 1024 := Nat.or_lt_two_pow (n := 10) ha (Nat.pow_lt_pow_right (by decide) hb)
theorem kOfPos {x : Int32} (h : ¬ x ≤ 0) : ∃ j : Nat, j + 1 < 2 ^ 31 ∧ x = nI (j + 1) := by
  have h0 : ¬ x < 0 := fun z => h (Int32.le_of_lt z)
  obtain ⟨k, hk, e⟩ := nI_of h0
  rcases k with _ | j
  · exact absurd (by rw [e]; decide) h
  · exact ⟨j, hk, e⟩
theorem kRfv (x : Option Nat) : va_rf x = .null ∨ ∃ a, va_rf x = .ref a := by
  cases x
  · exact Or.inl rfl
  · exact Or.inr ⟨_, rfl⟩
theorem kMinN {a b : Nat} (h : b ≤ a) (ha : a < 2 ^ 31) {x : Int32} (e : x = if nI b < nI a then nI b else nI a) : x = nI b := by
  by_cases hz : nI b < nI a
  · rw [if_pos hz] at e; exact e
  · rw [if_neg hz] at e
    have := knlt (a := b) (b := a) (by omega) ha hz
    rw [e, show a = b by omega]
theorem kFull {a b : Nat} {r : Int32} (hw : r = if a < b then 0 else 1) (c : r = 0) : a < b := by
  by_cases h : a < b
  · exact h
  · rw [if_neg h] at hw; rw [hw] at c; exact absurd c (by decide)
/-- kl texts on a shelf: each is a rule whose three cells lie in the heap, none of them in A -/
def kSh (dC : Nat → ClassId) (dI : Nat → Nat → Nat) (kl : Nat) (gL : Nat → Option Nat) (yL : Nat → List kTr) (M9 : Nat) (A : Nat → Prop) (U : State) : Prop := ∀ j : Nat, j < kl → ∃ (ru sA cl : Nat) (cS cc : ClassId) (nS nC : Nat) (gS gC : Nat → Int32), gL j = some ru ∧ kRu (yL j) M9 nS nC gS gC ∧ nS ≤ 200 ∧ nC ≤ 200 ∧ va_K (dC, dI) vwCl [(cS, .int), (cc, .int)] U ∧ (va_P (dC, dI) vwCl [(ru, .inr (6, [.ref sA, .ref cl])), (sA, .inl (cS, nS, .inl gS)), (cl, .inl (cc, nC, .inl gC))] U.heap ∧ ∀ (k : Nat) (q : Nat × va_E), ([(ru, .inr (6, [.ref sA, .ref cl])), (sA, .inl (cS, nS, .inl gS)), (cl, .inl (cc, nC, .inl gC))] : va_W)[k]? = some q → ¬ A q.1)
theorem kSh_get {dC : Nat → ClassId} {dI : Nat → Nat → Nat} {kl : Nat} {gL : Nat → Option Nat} {yL : Nat → List kTr} {M9 : Nat} {A : Nat → Prop} {s : State} (h : kSh dC dI kl gL yL M9 A s) {ru : Nat} (hw : some ru = none ∨ ∃ j : Nat, j < kl ∧ some ru = gL j) : ∃ (sA cl : Nat) (cS cc : ClassId) (nS nC : Nat) (gS gC : Nat → Int32), nS ≤ 200 ∧ nC ≤ 200 ∧ va_K (dC, dI) vwCl [(cS, .int), (cc, .int)] s ∧ (va_P (dC, dI) vwCl [(ru, .inr (6, [.ref sA, .ref cl])), (sA, .inl (cS, nS, .inl gS)), (cl, .inl (cc, nC, .inl gC))] s.heap ∧ ∀ (k : Nat) (q : Nat × va_E), ([(ru, .inr (6, [.ref sA, .ref cl])), (sA, .inl (cS, nS, .inl gS)), (cl, .inl (cc, nC, .inl gC))] : va_W)[k]? = some q → ¬ A q.1) := by
  rcases hw with z | ⟨j, hj, e⟩
  · cases z
  · obtain ⟨ru', sA, cl, cS, cc, nS, nC, gS, gC, e1, hy, h1, h2, h3, h4⟩ := h j hj
    cases e.trans e1
    exact ⟨sA, cl, cS, cc, nS, nC, gS, gC, h1, h2, h3, h4⟩
theorem kSh_some {dC : Nat → ClassId} {dI : Nat → Nat → Nat} {kl : Nat} {gL : Nat → Option Nat} {yL : Nat → List kTr} {M9 : Nat} {A : Nat → Prop} {s : State} (h : kSh dC dI kl gL yL M9 A s) {j : Nat} (hj : j < kl) : ∃ ru : Nat, gL j = some ru := by
  obtain ⟨ru', sA, cl, cS, cc, nS, nC, gS, gC, e1, hy, h1, h2, h3, h4⟩ := h j hj
  exact ⟨ru', e1⟩
theorem kSh_blind {dC : Nat → ClassId} {dI : Nat → Nat → Nat} {kl : Nat} {gL : Nat → Option Nat} {yL : Nat → List kTr} {M9 : Nat} {A : Nat → Prop} : ∀ (U : State) (g : JFrame) (mk : MethodId) (a : Array Value), kSh dC dI kl gL yL M9 A U → kSh dC dI kl gL yL M9 A (U.calling g mk a) := fun U g mk a h j hj => by
  obtain ⟨ru, sA, cl, cS, cc, nS, nC, gS, gC, e1, hy, h1, h2, h3, h4⟩ := h j hj
  exact ⟨ru, sA, cl, cS, cc, nS, nC, gS, gC, e1, hy, h1, h2, va_K.moved (u := U) (U := U.calling g mk a) (Vm.Alike.refl U.vm) h3, h4⟩
theorem kSh_give {dC : Nat → ClassId} {dI : Nat → Nat → Nat} {kl : Nat} {gL : Nat → Option Nat} {yL : Nat → List kTr} {M9 : Nat} {A B : Nat → Prop} {s : State} {H : Heap} {locs : List Loc} (h : kSh dC dI kl gL yL M9 A s) (hS : va_S A s.heap H locs) (hB : ∀ q, B q → A q) : ∀ U : State, U.heap = H → s.WarmedH U.vm → kSh dC dI kl gL yL M9 B U := fun U hU hW j hj => by
  obtain ⟨ru, sA, cl, cS, cc, nS, nC, gS, gC, e1, hy, h1, h2, h3, h4⟩ := h j hj
  exact ⟨ru, sA, cl, cS, cc, nS, nC, gS, gC, e1, hy, h1, h2, va_K.moved hW.alike h3, by rw [hU]; exact kFz_at h4 hS, fun k q hk z => h4.2 k q hk (hB _ z)⟩
/-- both shelves, and the links of nest mates -/
def kPub (dC : Nat → ClassId) (dI : Nat → Nat → Nat) (kl : Nat) (gL : Nat → Option Nat) (yL : Nat → List kTr) (ku : Nat) (gU : Nat → Option Nat) (yU : Nat → List kTr) (A : Nat → Prop) (U : State) : Prop := (kSh dC dI kl gL yL 8 A U ∧ kSh dC dI ku gU yU 5 A U) ∧ kNL U
theorem kPub_blind {dC : Nat → ClassId} {dI : Nat → Nat → Nat} {kl : Nat} {gL : Nat → Option Nat} {yL : Nat → List kTr} {ku : Nat} {gU : Nat → Option Nat} {yU : Nat → List kTr} {A : Nat → Prop} : ∀ (U : State) (g : JFrame) (mk : MethodId) (a : Array Value), kPub dC dI kl gL yL ku gU yU A U → kPub dC dI kl gL yL ku gU yU A (U.calling g mk a) := fun U g mk a h => ⟨⟨kSh_blind U g mk a h.1.1, kSh_blind U g mk a h.1.2⟩, kNL_blind U g mk a h.2⟩
theorem kPub_give {dC : Nat → ClassId} {dI : Nat → Nat → Nat} {kl : Nat} {gL : Nat → Option Nat} {yL : Nat → List kTr} {ku : Nat} {gU : Nat → Option Nat} {yU : Nat → List kTr} {A B : Nat → Prop} {s : State} {H : Heap} {locs : List Loc} (h : kPub dC dI kl gL yL ku gU yU A s) (hS : va_S A s.heap H locs) (hB : ∀ q, B q → A q) : ∀ U : State, U.heap = H → s.WarmedH U.vm → kPub dC dI kl gL yL ku gU yU B U := fun U hU hW => ⟨⟨kSh_give h.1.1 hS hB U hU hW, kSh_give h.1.2 hS hB U hU hW⟩, kNL_give h.2 U hU hW⟩
/-- arrays of ints can be cloned -/
def kCl (U : State) : Prop := va_Nw (.castable "[I" "java/lang/Cloneable") U
theorem kCl_blind : ∀ (U : State) (g : JFrame) (mk : MethodId) (a : Array Value), kCl U → kCl (U.calling g mk a) := fun U _ _ _ h => va_Nw.same (u := U) rfl rfl h
theorem kCl_give {s : State} {H : Heap} (h : kCl s) : ∀ U : State, U.heap = H → s.WarmedH U.vm → kCl U := fun _ _ hW => va_Nw.warmC hW h
/-- a shelf after a text: as before, or one rule more, of three cells that are new -/
def kShN (dC : Nat → ClassId) (dI : Nat → Nat → Nat) (kl : Nat) (gL : Nat → Option Nat) (kl1 : Nat) (gL1 : Nat → Option Nat) (Y9 : List kTr) (M9 : Nat) (sz : Nat) (t : State) : Prop := (kl1 = kl ∧ gL1 = gL) ∨ (kl1 = kl + 1 ∧ ∃ (ru sA cl : Nat) (cS cc : ClassId) (nS nC : Nat) (gS gC : Nat → Int32), gL1 = va_up gL kl (some ru) ∧ kRu Y9 M9 nS nC gS gC ∧ nS ≤ 200 ∧ nC ≤ 200 ∧ va_K (dC, dI) vwCl [(cS, .int), (cc, .int)] t ∧ va_P (dC, dI) vwCl [(ru, .inr (6, [.ref sA, .ref cl])), (sA, .inl (cS, nS, .inl gS)), (cl, .inl (cc, nC, .inl gC))] t.heap ∧ sz ≤ ru ∧ sz ≤ sA ∧ sz ≤ cl)
/-- a cell of the world that is none of the first ones is new -/
theorem kFresh {W0 ws : va_W} {sz : Nat} {A : Nat → Prop} (hD : va_D A ws) (hAe : va_A W0 sz = A) (i : Nat) {q : Nat × va_E} (hi : ws[i]? = some q) (is : List Nat) (hW : W0.map (fun z => some z.1) = is.map (fun j => (ws[j]?).map (fun z => z.1))) (hn : ¬ i ∈ is) : sz ≤ q.1 := by
  have h := hD.2 i q hi
  rw [← hAe] at h
  rcases h with ⟨k, e, hk⟩ | h
  · exfalso
    have h1 : (W0.map (fun z => some z.1))[k]? = some (some q.1) := by rw [List.getElem?_map, hk]; rfl
    rw [hW, List.getElem?_map] at h1
    cases hj : is[k]? with
    | none => rw [hj] at h1; cases h1
    | some j =>
      rw [hj] at h1
      have h2 : (ws[j]?).map (fun z => z.1) = some q.1 := Option.some.inj h1
      cases hp : ws[j]? with
      | none => rw [hp] at h2; cases h2
      | some p9 =>
        rw [hp] at h2
        have h3 : p9.1 = q.1 := Option.some.inj h2
        have h4 := hD.1 j i p9 q hp hi h3
        exact hn (h4 ▸ List.mem_of_getElem? hj)
  · exact h
def kSort (p : Int32) : Int32 := if p = 0 then 1 else if p = 1 then 1 else 0
theorem kSort_or {p : Int32} (h : ¬ kSort p = 0) : p = 0 ∨ p = 1 := by
  unfold kSort at h
  by_cases h0 : p = 0
  · exact Or.inl h0
  · by_cases h1 : p = 1
    · exact Or.inr h1
    · rw [if_neg h0, if_neg h1] at h; exact absurd rfl h
theorem kSw7 (x : Int32) : x = 0 ∨ x = 1 ∨ x = 2 ∨ x = 3 ∨ x = 4 ∨ x = 5 ∨ x = 6 ∨ (x.toInt < 0 ∨ 6 < x.toInt) := by
  by_cases h : x.toInt < 0 ∨ 6 < x.toInt
  · simp [h]
  · have : x.toInt = 0 ∨ x.toInt = 1 ∨ x.toInt = 2 ∨ x.toInt = 3 ∨ x.toInt = 4 ∨ x.toInt = 5 ∨ x.toInt = 6 := by omega
    rcases this with e | e | e | e | e | e | e
    · exact Or.inl (Int32.toInt_inj.mp e)
    · exact Or.inr (Or.inl (Int32.toInt_inj.mp e))
    · exact Or.inr (Or.inr (Or.inl (Int32.toInt_inj.mp e)))
    · exact Or.inr (Or.inr (Or.inr (Or.inl (Int32.toInt_inj.mp e))))
    · exact Or.inr (Or.inr (Or.inr (Or.inr (Or.inl (Int32.toInt_inj.mp e)))))
    · exact Or.inr (Or.inr (Or.inr (Or.inr (Or.inr (Or.inl (Int32.toInt_inj.mp e))))))
    · exact Or.inr (Or.inr (Or.inr (Or.inr (Or.inr (Or.inr (Or.inl (Int32.toInt_inj.mp e)))))))
theorem kA_int (n : Nat) : ∀ cA : ClassId, vp_cell cA (n, .inl (fun _ => 0)) = arrV cA n (fun _ => defaultValue .int) := fun _ => rfl
theorem kA_char (n : Nat) : ∀ cA : ClassId, vp_cell cA (n, .inl (fun _ => 0)) = arrV cA n (fun _ => defaultValue .char) := fun _ => rfl
theorem kA_byte (n : Nat) : ∀ cA : ClassId, vp_cell cA (n, .inl (fun _ => 0)) = arrV cA n (fun _ => defaultValue .byte) := fun _ => rfl
theorem kA_boolean (n : Nat) : ∀ cA : ClassId, vp_cell cA (n, .inl (fun _ => 0)) = arrV cA n (fun _ => defaultValue .boolean) := fun _ => rfl
theorem kA_long (n : Nat) : ∀ cA : ClassId, vp_cell cA (n, .inr (.inl (fun _ => 0))) = arrV cA n (fun _ => defaultValue .long) := fun _ => rfl
def kWordA (p : Int32) (kw : Nat) : Int32 := if kIn p 0 47 = 0 then -1 else if kw < 4 then nI (kw + 1) else -1
def kWordN (p : Int32) (kw : Nat) : Nat := if kIn p 0 47 = 0 then kw else if kw < 4 then kw + 1 else kw
theorem kNzr {r E : Int32} (h : r = E) (c : ¬ r = 0) : ¬ E = 0 := fun z => c (h.trans z)
theorem kZr {r E : Int32} (h : r = E) (c : r = 0) : E = 0 := h.symm.trans c
def kPn (p : Int32) (k : Nat) : Int32 := if p < 0 then 0 else if p < nI k then 1 else 0
theorem kPn_nI {j k : Nat} (hj : j < 2 ^ 31) (hk : k < 2 ^ 31) : kPn (nI j) k = if j < k then 1 else 0 := by
  unfold kPn
  rw [if_neg (nI_pos (n := j) hj)]
  by_cases z : nI j < nI k
  · have h := klt (a := j) (b := k) (by omega) (by omega) z
    rw [if_pos z, if_pos h]
  · have h := knlt (a := j) (b := k) (by omega) (by omega) z
    rw [if_neg z, if_neg (by omega)]
def kPerA (p q u : Int32) (k : Nat) : Int32 := if kIn p 0 100 = 0 then -1 else if kIn q 0 99 = 0 then -1 else if kIn u 0 3 = 0 then -1 else if k < 10 then nI k else -1
def kPerN (p q u : Int32) (k : Nat) : Nat := if kIn p 0 100 = 0 then k else if kIn q 0 99 = 0 then k else if kIn u 0 3 = 0 then k else if k < 10 then k + 1 else k
theorem kPerN_b {p q u : Int32} {k : Nat} (h : k ≤ 10) : k ≤ kPerN p q u k ∧ kPerN p q u k ≤ 10 := by
  unfold kPerN
  split
  · omega
  · split
    · omega
    · split
      · omega
      · split <;> omega
def kKnow (a b : Int32) (k : Nat) : Int32 := if kPn a k = 0 then 0 else if kPn b k = 0 then 0 else if a = b then 0 else 1
def kNoteK (k v o : Int32) : Int32 := if k = 0 then (if kIn v 0 100 = 0 then 0 else if kIn o 0 50 = 0 then 0 else 1) else if k = 1 then kIn v (-1) 3 else 0
def kNoteA (p h k v o : Int32) (ks kn : Nat) : Int32 := if kPn p ks = 0 then -1 else if kIn h 0 48 = 0 then -1 else if kNoteK k v o = 0 then -1 else if kn < 20 then nI (kn + 1) else -1
def kNoteN (p h k v o : Int32) (ks kn : Nat) : Nat := if kPn p ks = 0 then kn else if kIn h 0 48 = 0 then kn else if kNoteK k v o = 0 then kn else if kn < 20 then kn + 1 else kn
theorem kIn_m1 : kIn (-1) (-1) 3 = 1 := by decide
theorem kHouseN {v : Int32} (h1 : ¬ v = -1) (h2 : kIn v 0 3 = 0) : kIn v (-1) 3 = 0 := by
  unfold kIn at h2 ⊢
  by_cases a : v < 0
  · have : v < -1 := by
      rw [Int32.lt_iff_toInt_lt] at a ⊢
      have h3 : ¬ v.toInt = (-1 : Int32).toInt := fun z => h1 (Int32.toInt_inj.mp z)
      have e0 : (0 : Int32).toInt = 0 := rfl
      have e1 : (-1 : Int32).toInt = -1 := rfl
      rw [e1] at h3 ⊢; rw [e0] at a
      omega
    rw [if_pos this]
  · rw [if_neg a] at h2
    split
    · rfl
    · exact h2
theorem kHouseY {v : Int32} (h2 : ¬ kIn v 0 3 = 0) : ¬ kIn v (-1) 3 = 0 := by
  unfold kIn at h2 ⊢
  by_cases a : v < 0
  · rw [if_pos a] at h2; exact absurd rfl h2
  · rw [if_neg a] at h2
    have : ¬ v < -1 := fun z => a (by
      rw [Int32.lt_iff_toInt_lt] at z ⊢
      have e0 : (0 : Int32).toInt = 0 := rfl
      have e1 : (-1 : Int32).toInt = -1 := rfl
      rw [e1] at z; rw [e0]; omega)
    rw [if_neg this]
    exact h2
def kLetsA (p o : Int32) (ku : Nat) (y : Nat → List kTr) : Int32 := if kPn p ku = 0 then -1 else if kIn o 0 31 = 0 then -1 else kLet o (y (Int32.toNatClampNeg p))
def kBol (a b : Nat) : Int32 := if a = b then 0 else if a &&& b = b then 1 else 0
def kBolA (p q : Int32) (ku : Nat) (y : Nat → List kTr) : Int32 := if kPn p ku = 0 then -1 else if kPn q ku = 0 then -1 else kBol (kBar (y (Int32.toNatClampNeg p))) (kBar (y (Int32.toNatClampNeg q)))
theorem kCpy {g h : Nat → Int32} {pn j : Nat} (hp : pn < 2 ^ 31) (hj : j < pn) : va_cpy g h (Int32.toNatClampNeg 0) (Int32.toNatClampNeg 0) (Int32.toNatClampNeg (nI pn)) j = g j := by
  have h0 : Int32.toNatClampNeg 0 = 0 := by decide
  unfold va_cpy
  rw [nI_clamp hp, h0, if_pos ⟨Nat.zero_le j, by omega⟩]
  congr 1
  omega
theorem kAtWy {r : Option Nat} {g : Nat → Option Nat} {k : Nat} {p : Int32} (h : (r = none ∧ kPn p k = 0) ∨ (kPn p k = 1 ∧ ∃ j : Nat, j < k ∧ p = nI j ∧ r = g j)) : r = none ∨ ∃ j : Nat, j < k ∧ r = g j := h.elim (fun z => Or.inl z.1) (fun z => Or.inr (by obtain ⟨_, j, h1, _, h2⟩ := z; exact ⟨j, h1, h2⟩))
theorem kSh_gety {dC : Nat → ClassId} {dI : Nat → Nat → Nat} {kl : Nat} {gL : Nat → Option Nat} {yL : Nat → List kTr} {M9 : Nat} {A : Nat → Prop} {s : State} (h : kSh dC dI kl gL yL M9 A s) {ru : Nat} {p : Int32} (hw : (some ru = none ∧ kPn p kl = 0) ∨ (kPn p kl = 1 ∧ ∃ j : Nat, j < kl ∧ p = nI j ∧ some ru = gL j)) : ∃ (j : Nat) (sA cl : Nat) (cS cc : ClassId) (nS nC : Nat) (gS gC : Nat → Int32), j < kl ∧ p = nI j ∧ kPn p kl = 1 ∧ kRu (yL j) M9 nS nC gS gC ∧ nS ≤ 200 ∧ nC ≤ 200 ∧ va_K (dC, dI) vwCl [(cS, .int), (cc, .int)] s ∧ (va_P (dC, dI) vwCl [(ru, .inr (6, [.ref sA, .ref cl])), (sA, .inl (cS, nS, .inl gS)), (cl, .inl (cc, nC, .inl gC))] s.heap ∧ ∀ (k : Nat) (q : Nat × va_E), ([(ru, .inr (6, [.ref sA, .ref cl])), (sA, .inl (cS, nS, .inl gS)), (cl, .inl (cc, nC, .inl gC))] : va_W)[k]? = some q → ¬ A q.1) := by
  rcases hw with z | ⟨hn, j, hj, hp, e⟩
  · cases z.1
  · obtain ⟨ru2, sA, cl, cS, cc, nS, nC, gS, gC, e1, hy, h1, h2, h3, h4⟩ := h j hj
    cases e.trans e1
    exact ⟨j, sA, cl, cS, cc, nS, nC, gS, gC, hj, hp, hn, hy, h1, h2, h3, h4⟩
theorem kPn_none {p : Int32} {r : Option Nat} {g : Nat → Option Nat} {k : Nat} (h : (r = none ∧ kPn p k = 0) ∨ (kPn p k = 1 ∧ ∃ j : Nat, j < k ∧ p = nI j ∧ r = g j)) (hn : r = none) (hs : ∀ j : Nat, j < k → ∃ a : Nat, g j = some a) : kPn p k = 0 := by
  rcases h with h | ⟨_, j, hj, _, e⟩
  · exact h.2
  · obtain ⟨a, ea⟩ := hs j hj
    rw [hn, ea] at e
    cases e
theorem kBol_0 {x y : Int32} {a b : Nat} (hx : x = nI a) (hy : y = nI b) (ha : a < 2 ^ 32) (hb : b < 2 ^ 32) (c : x = y) : 0 = kBol a b := by
  have h := nI_inj32 ha hb (hx.symm.trans (c.trans hy))
  unfold kBol
  rw [if_pos h]
theorem kBol_1 {x y z : Int32} {a b : Nat} (hx : x = nI a) (hy : y = nI b) (ha : a < 2 ^ 32) (hb : b < 2 ^ 32) (c : ¬ x = y) (ez : z = x &&& y) (c2 : z = y) : 1 = kBol a b := by
  have h : ¬ a = b := fun e => c (by rw [hx, hy, e])
  have h2 : a &&& b = b := nI_inj32 (Nat.lt_of_le_of_lt Nat.and_le_right hb) hb (by rw [← nI_and5, ← hx, ← hy, ← ez]; exact c2)
  unfold kBol
  rw [if_neg h, if_pos h2]
theorem kBol_2 {x y z : Int32} {a b : Nat} (hx : x = nI a) (hy : y = nI b) (c : ¬ x = y) (ez : z = x &&& y) (c2 : ¬ z = y) : 0 = kBol a b := by
  have h : ¬ a = b := fun e => c (by rw [hx, hy, e])
  have h2 : ¬ a &&& b = b := fun e => c2 (by rw [ez, hx, hy, nI_and5, e])
  unfold kBol
  rw [if_neg h, if_neg h2]
def kIsB (a b : Int32) : Int32 := if (a >>> (b &&& 31)) &&& 1 = 0 then 0 else 1
theorem kIsB_nar (a b : Int32) : narrow .boolean (.int (kIsB a b)) = .int (kIsB a b) := by unfold kIsB; split <;> rfl
theorem kIsB_F : ∀ (v : Fin 1024) (j : Fin 10), kIsB (nI v.val) (nI j.val) = if v.val.testBit j.val then 1 else 0 := by decide +kernel
theorem kIsB_n {v j : Nat} (hv : v < 1024) (hj : j < 10) : kIsB (nI v) (nI j) = if v.testBit j then 1 else 0 := kIsB_F ⟨v, hv⟩ ⟨j, hj⟩
def kActK (k x p : Int32) (ks : Nat) : Int32 := if k = 0 then kIn x 0 99 else if k = 1 then kIn x 0 3 else if k = 2 then (if kPn x ks = 0 then 0 else if x = p then 0 else 1) else 0
def kActA (p k x c : Int32) (ks : Nat) (se : Int32) (ka : Nat) : Int32 := if kPn p ks = 0 then -1 else if ¬ se = 0 then -1 else if kIn c 1 50 = 0 then -1 else if kActK k x p ks = 0 then -1 else if ka < 6 then nI ka else -1
def kActN (p k x c : Int32) (ks : Nat) (se : Int32) (ka : Nat) : Nat := if kPn p ks = 0 then ka else if ¬ se = 0 then ka else if kIn c 1 50 = 0 then ka else if kActK k x p ks = 0 then ka else if ka < 6 then ka + 1 else ka
def kSnN (p q u w : Int32) (k sv : Nat) : Nat := if kPerN p q u k = k then sv else if w = 0 then sv else sv ||| 2 ^ k
def kSen (p q u w : Int32) (k : Nat) (f : Nat → Int32) : Nat → Int32 := if kPerN p q u k = k then f else upd f k (vp_nar .boolean w)
theorem kPerN_ok {p q u : Int32} {k : Nat} (h1 : ¬ kIn p 0 100 = 0) (h2 : ¬ kIn q 0 99 = 0) (h3 : ¬ kIn u 0 3 = 0) : kPerN p q u k = if k < 10 then k + 1 else k := by unfold kPerN; rw [if_neg h1, if_neg h2, if_neg h3]
theorem kPerN_or (p q u : Int32) (k : Nat) : kPerN p q u k = k ∨ (kPerN p q u k = k + 1 ∧ k < 10) := by
  unfold kPerN
  split
  · exact Or.inl rfl
  · split
    · exact Or.inl rfl
    · split
      · exact Or.inl rfl
      · split
        · exact Or.inr ⟨rfl, by assumption⟩
        · exact Or.inl rfl
theorem kSe_new {p q u w : Int32} (hw : w = 0 ∨ w = 1) {ks sv : Nat} {f : Nat → Int32} (hks : ks ≤ 10) (hsv : sv < 1024) (hb : sv < 2 ^ ks) (H : ∀ j : Nat, j < ks → (f j = 0 ↔ kIsB (nI sv) (nI j) = 0)) : (∀ j : Nat, j < kPerN p q u ks → (kSen p q u w ks f j = 0 ↔ kIsB (nI (kSnN p q u w ks sv)) (nI j) = 0)) ∧ kSnN p q u w ks sv < 2 ^ kPerN p q u ks := by
  rcases kPerN_or p q u ks with e | ⟨e, hk⟩
  · unfold kSen kSnN
    rw [e, if_pos rfl, if_pos rfl]
    exact ⟨H, hb⟩
  · have hne : ¬ ks + 1 = ks := by omega
    unfold kSen kSnN
    rw [e, if_neg hne, if_neg hne]
    have hp : 2 ^ ks < 2 ^ (ks + 1) := by rw [Nat.pow_succ]; have := Nat.one_le_two_pow (n := ks); omega
    have hlt : sv ||| 2 ^ ks < 2 ^ (ks + 1) := Nat.or_lt_two_pow (by omega) hp
    have h10 : 2 ^ (ks + 1) ≤ 1024 := (Nat.pow_le_pow_right (by decide) (by omega) : 2 ^ (ks + 1) ≤ 2 ^ 10)
    have hz : sv.testBit ks = false := Nat.testBit_lt_two_pow hb
    constructor
    · intro j hj
      by_cases ej : j = ks
      · subst ej
        have eu : upd f j (vp_nar .boolean w) j = vp_nar .boolean w := by unfold upd; rw [if_pos rfl]
        rw [eu]
        rcases hw with rfl | rfl
        · rw [if_pos rfl, kIsB_n hsv (by omega), hz]
          exact ⟨fun _ => rfl, fun _ => rfl⟩
        · rw [if_neg (by decide), kIsB_n (by omega) (by omega), Nat.testBit_or, Nat.testBit_two_pow_self, Bool.or_true]
          exact ⟨fun z => absurd z (by decide), fun z => absurd z (by decide)⟩
      · have eu : upd f ks (vp_nar .boolean w) j = f j := by unfold upd; rw [if_neg ej]
        rw [eu, H j (by omega)]
        rcases hw with rfl | rfl
        · rw [if_pos rfl]
        · rw [if_neg (by decide), kIsB_n hsv (by omega), kIsB_n (by omega) (by omega), Nat.testBit_or, Nat.testBit_two_pow_of_ne (by omega), Bool.or_false]
    · rcases hw with rfl | rfl
      · rw [if_pos rfl]; omega
      · rw [if_neg (by decide)]; exact hlt
theorem kAct_se {p k x c se s2 : Int32} {ks ka : Nat} (H : ¬ kPn p ks = 0 → (se = 0 ↔ s2 = 0)) : kActA p k x c ks se ka = kActA p k x c ks s2 ka ∧ kActN p k x c ks se ka = kActN p k x c ks s2 ka := by
  unfold kActA kActN
  by_cases h : kPn p ks = 0
  · rw [if_pos h, if_pos h, if_pos h, if_pos h]; exact ⟨rfl, rfl⟩
  · rw [if_neg h, if_neg h, if_neg h, if_neg h]
    by_cases z : se = 0
    · rw [if_neg (not_not_intro z), if_neg (not_not_intro z), if_neg (not_not_intro ((H h).mp z)), if_neg (not_not_intro ((H h).mp z))]; exact ⟨rfl, rfl⟩
    · have y : ¬ s2 = 0 := fun y => z ((H h).mpr y)
      rw [if_pos z, if_pos z, if_pos y, if_pos y]; exact ⟨rfl, rfl⟩
theorem kActN_le {p k x c se : Int32} {ks ka : Nat} (h : ka ≤ 6) : kActN p k x c ks se ka ≤ 6 := by
  unfold kActN
  split
  · exact h
  · split
    · exact h
    · split
      · exact h
      · split
        · exact h
        · split <;> omega
/-- the class's texts, its nest mates' links, and that arrays can be cloned -/
def kTxt (ad : Nat → Nat) (bA nA : Nat) (xA : Nat → Int32) (bB nB : Nat) (xB : Nat → Int32) (bE nE : Nat) (xE : Nat → Int32) (bG nG : Nat) (xG : Nat → Int32) (A : Nat → Prop) (U : State) : Prop := kRd ad 1 3 bA nA xA bB nB xB A U ∧ kRd ad 2 4 bE nE xE bG nG xG A U ∧ kNL U ∧ kCl U
theorem kTxt_blind {ad : Nat → Nat} {bA nA : Nat} {xA : Nat → Int32} {bB nB : Nat} {xB : Nat → Int32} {bE nE : Nat} {xE : Nat → Int32} {bG nG : Nat} {xG : Nat → Int32} {A : Nat → Prop} : ∀ (U : State) (g : JFrame) (mk : MethodId) (a : Array Value), kTxt ad bA nA xA bB nB xB bE nE xE bG nG xG A U → kTxt ad bA nA xA bB nB xB bE nE xE bG nG xG A (U.calling g mk a) := fun U g mk a h => ⟨kRd_blind U g mk a h.1, kRd_blind U g mk a h.2.1, kNL_blind U g mk a h.2.2.1, kCl_blind U g mk a h.2.2.2⟩
theorem kTxt_give {ad : Nat → Nat} {bA nA : Nat} {xA : Nat → Int32} {bB nB : Nat} {xB : Nat → Int32} {bE nE : Nat} {xE : Nat → Int32} {bG nG : Nat} {xG : Nat → Int32} {A B : Nat → Prop} {s : State} {H : Heap} {locs : List Loc} (h : kTxt ad bA nA xA bB nB xB bE nE xE bG nG xG A s) (hS : va_S A s.heap H locs) (hB : ∀ q, B q → A q) : ∀ U : State, U.heap = H → s.WarmedH U.vm → kTxt ad bA nA xA bB nB xB bE nE xE bG nG xG B U := fun U hU hW => ⟨kRd_give h.1 hS hB U hU hW, kRd_give h.2.1 hS hB U hU hW, kNL_give h.2.2.1 U hU hW, kCl_give h.2.2.2 U hU hW⟩
theorem kTc_z {s : Int32} {o0 o1 : Bool} {kl ku : Nat} (h : kSort s = 0) : kTc s o0 o1 kl ku = 0 := by
  unfold kSort at h
  unfold kTc
  by_cases h0 : s = 0
  · rw [if_pos h0] at h; exact absurd h (by decide)
  · rw [if_neg h0] at h ⊢
    by_cases h1 : s = 1
    · rw [if_pos h1] at h; exact absurd h (by decide)
    · rw [if_neg h1]
theorem kFtA_z {s : Int32} {o0 o1 : Bool} {p0 p1 : Nat} (h : kSort s = 0) : kFtA s o0 p0 o1 p1 = -2 := by
  unfold kSort at h
  unfold kFtA
  by_cases h0 : s = 0
  · rw [if_pos h0] at h; exact absurd h (by decide)
  · rw [if_neg h0] at h ⊢
    by_cases h1 : s = 1
    · rw [if_pos h1] at h; exact absurd h (by decide)
    · rw [if_neg h1]
theorem kFullN {kh nH : Nat} {r : Int32} (h : r = (if kh < nH then 0 else 1)) (c : ¬ r = 0) : nH ≤ kh := by
  by_cases z : kh < nH
  · rw [if_pos z] at h; exact absurd h c
  · omega
theorem kAtW {r : Option Nat} {g : Nat → Option Nat} {k : Nat} {p : Int32} (h : (r = none ∧ kPn p k = 0) ∨ (kPn p k = 1 ∧ ∃ j : Nat, j < k ∧ r = g j)) : r = none ∨ ∃ j : Nat, j < k ∧ r = g j := h.elim (fun z => Or.inl z.1) (fun z => Or.inr z.2)
def kSayA (p t : Int32) (ks ku : Nat) : Int32 := if kPn p ks = 0 then 0 else if t = -1 then 1 else kPn t ku
theorem kCtA_d {w : Int32} {kl ku ks kw kn ka kt : Nat} (h : w.toInt < 0 ∨ 6 < w.toInt) : kCtA w kl ku ks kw kn ka kt = -1 := by
  have H : ∀ n : Int32, (0 ≤ n.toInt ∧ n.toInt ≤ 6) → ¬ w = n := fun n hn z => by rw [z] at h; omega
  unfold kCtA
  rw [if_neg (H 0 (by decide)), if_neg (H 1 (by decide)), if_neg (H 2 (by decide)), if_neg (H 3 (by decide)), if_neg (H 4 (by decide)), if_neg (H 5 (by decide)), if_neg (H 6 (by decide))]

def w_s_sent2n : List Cond := .code yX2_sentOnes cX2_sentOnes 1 (some .int) :: ([.fieldLink RX2 27 "NotEnded$Folk" "sent" "I"] ++ (wsX20))
theorem gw_s_sent2n : (w_s_sent2n).all goodWord = true := kGc rfl (kGa (by decide +kernel) gw_wsX20)
set_option maxHeartbeats 4000000 in
set_option maxRecDepth 100000 in
theorem s_sent2n (l : Launch) (dC : Nat → ClassId) (dI : Nat → Nat → Nat) (hF : Nat) (f0 : Nat) (f1 : Nat) (f2 : Nat) (f3 : Nat) (f4 : Nat) (z0 : ClassId) (z1 : ClassId) (z2 : ClassId) (z3 : ClassId) (z4 : ClassId) (g0 : Nat → Int32) (g1 : Nat → Int32) (g2 : Nat → Int32) (g3 : Nat → Int32) (g4 : Nat → Int32) (ks : Nat) (kw : Nat) (hks : ks ≤ 10) (hkw : kw ≤ 4) (sv : Nat) (hsv : sv < 1024) : Met l yX2_sentOnes w_s_sent2n ({ frames := 1, cells := 0, slots := 0, locals := 60 }) (kR dC dI [.ref hF] [(hF, .inr (2, [.ref f0, .ref f1, .ref f2, .ref f3, .ref f4, .int (nI (sv)), .int (nI (ks)), .int (nI (kw))])), (f0, .inl (z0, 10, .inl g0)), (f1, .inl (z1, 10, .inl g1)), (f2, .inl (z2, 10, .inl g2)), (f3, .inl (z3, 10, .inl g3)), (f4, .inl (z4, 4, .inl g4))] [(z0, .int), (z1, .int), (z2, .int), (z3, .int), (z4, .int)] kT) (vp_Si (fun r : Int32 => r = nI sv)) 0 0 (fun _ => False) := by
  refine Met.ofW (cc := cX2_sentOnes) (maxL := 1) (ret := (some .int)) (by decide) rfl ?_
  intro p e s m args below meth c s₁ B hml hv
  obtain ⟨rfl, hP, hK, hX⟩ := hv
  have hx := B.exec
  have hb := B.bytes
  have hr := B.returns
  have hts := atoms_spec (ws := w_s_sent2n) B.pre
  have hown : s.vm.findClass RX2 = some m.cls := findClass_of_methodNamed B.named
  have hlocks := B.notSynchronized
  have hP : va_P (dC, dI) vwCl [(hF, .inr (2, [.ref f0, .ref f1, .ref f2, .ref f3, .ref f4, .int (nI (sv)), .int (nI (ks)), .int (nI (kw))])), (f0, .inl (z0, 10, .inl g0)), (f1, .inl (z1, 10, .inl g1)), (f2, .inl (z2, 10, .inl g2)), (f3, .inl (z3, 10, .inl g3)), (f4, .inl (z4, 4, .inl g4))] s.heap := hP
  have hl := lv_entry ([.ref hF]) (n := 1) (Nat.le_of_ble_eq_true rfl)
  rw [lg_entry_eq]
  generalize (lg_sl ([.ref hF]) ++ List.replicate (1 - (lg_sl ([.ref hF])).length) Slot.unset).toArray = ls at hl ⊢
  have hl : lv_has ls 1 [(0, .ref hF)] := hl
  refine kQ (fun Q hQ => ?_)
  refine lv_aload_n hx hb dX2_sentOnes_0 rfl (lv_at hl 0 rfl) ?_
  refine va_get (D := (dC, dI)) (ci := 2) (v := .int (nI (sv))) (C := RX2) (T := TX2) (N := 8) hx hb hts (fun _ h => List.mem_cons_of_mem _ (List.mem_append_right _ h)) hown hK hP 0 rfl rfl 5 kc_l_5_8 (hts (.fieldLink RX2 27 "NotEnded$Folk" "sent" "I") (List.mem_cons_of_mem _ (List.mem_append_left _ (List.mem_of_getElem? (i := 0) rfl)))) (fun _ h9 => h9) rfl dX2_sentOnes_1 ?_
  rw [hQ]
  exact W.iret (v := nI (sv)) hx hb hr (fun t ht hW => ⟨nI (sv), rfl, rfl, ht⟩) (fun _ h => nomatch h) dX2_sentOnes_4

def w_s_actsFor0n : List Cond := .code yX0_actsFor cX0_actsFor 4 (some .int) :: ([.fieldLink RX0 24 "NotEnded$Acts" "size" "I", .fieldLink RX0 9 "NotEnded$Acts" "persons" "[I"] ++ (wsX00))
theorem gw_s_actsFor0n : (w_s_actsFor0n).all goodWord = true := kGc rfl (kGa (by decide +kernel) gw_wsX00)
set_option maxHeartbeats 4000000 in
set_option maxRecDepth 100000 in
theorem s_actsFor0n (l : Launch) (dC : Nat → ClassId) (dI : Nat → Nat → Nat) (jA : Nat) (i0 : Nat) (i1 : Nat) (i2 : Nat) (i3 : Nat) (x0 : ClassId) (x1 : ClassId) (x2 : ClassId) (x3 : ClassId) (t0 : Nat → Int32) (t1 : Nat → Int32) (t2 : Nat → Int32) (t3 : Nat → Int32) (ka : Nat) (hka : ka ≤ 6) (p0 : Int32) : Met l yX0_actsFor w_s_actsFor0n ({ frames := 1, cells := 0, slots := 0, locals := 60 }) (kR dC dI [.ref jA, .int p0] [(jA, .inr (0, [.ref i0, .ref i1, .ref i2, .ref i3, .int (nI (ka))])), (i0, .inl (x0, 6, .inl t0)), (i1, .inl (x1, 6, .inl t1)), (i2, .inl (x2, 6, .inl t2)), (i3, .inl (x3, 6, .inl t3))] [(x0, .int), (x1, .int), (x2, .int), (x3, .int)] kT) (vp_Si (fun r : Int32 => (∃ v : Nat, v < 64 ∧ r = nI v))) 0 0 (fun _ => False) := by
  refine Met.ofW (cc := cX0_actsFor) (maxL := 4) (ret := (some .int)) (by decide) rfl ?_
  intro p e s m args below meth c s₁ B hml hv
  obtain ⟨rfl, hP, hK, hX⟩ := hv
  have hx := B.exec
  have hb := B.bytes
  have hr := B.returns
  have hts := atoms_spec (ws := w_s_actsFor0n) B.pre
  have hown : s.vm.findClass RX0 = some m.cls := findClass_of_methodNamed B.named
  have hlocks := B.notSynchronized
  have hP : va_P (dC, dI) vwCl [(jA, .inr (0, [.ref i0, .ref i1, .ref i2, .ref i3, .int (nI (ka))])), (i0, .inl (x0, 6, .inl t0)), (i1, .inl (x1, 6, .inl t1)), (i2, .inl (x2, 6, .inl t2)), (i3, .inl (x3, 6, .inl t3))] s.heap := hP
  have hl := lv_entry ([.ref jA, .int p0]) (n := 4) (Nat.le_of_ble_eq_true rfl)
  rw [lg_entry_eq]
  generalize (lg_sl ([.ref jA, .int p0]) ++ List.replicate (4 - (lg_sl ([.ref jA, .int p0])).length) Slot.unset).toArray = ls at hl ⊢
  have hl : lv_has ls 4 [(0, .ref jA), (1, .int p0)] := hl
  refine kQ (fun Q hQ => ?_)
  refine lv_iconst (v := 0) hx hb dX0_actsFor_0 kc_i_0 ?_
  refine lv_istore_n hx hb dX0_actsFor_1 rfl hl kc_l_2_4 (kTo [(2, .int 0), (0, .ref jA), (1, .int p0)]) (fun ls hl => ?_)
  refine lv_iconst (v := 0) hx hb dX0_actsFor_2 kc_i_0 ?_
  refine lv_istore_n hx hb dX0_actsFor_3 rfl hl kc_l_3_4 (kTo [(3, .int 0), (2, .int 0), (0, .ref jA), (1, .int p0)]) (fun ls hl => ?_)
  have lp_k_1 : ∀ (n9 : Nat) (i : Nat) (x9 : Nat) (ivk_1_0 : i ≤ ka) (ivk_1_1 : x9 < 64) (ls : Array Slot) (_ : lv_has ls 4 [(3, .int (nI (i))), (2, .int (nI (x9))), (0, .ref jA), (1, .int p0)]) (_ : ka - i < n9), W p l e (headSpec w_s_actsFor0n ({ frames := 1, cells := 0, slots := 0, locals := 60 })).room s m (#[.ref jA, .int p0] : Array Value) below meth c s.heap [] 0 0 Q (F0 m 4 ls []) := by
    intro n9
    induction n9 with
    | zero => intro i x9 ivk_1_0 ivk_1_1 ls hl hm9; exact absurd hm9 (Nat.not_lt_zero _)
    | succ n9 ih_k_1 =>
      intro i x9 ivk_1_0 ivk_1_1 ls hl hm9
      refine lv_iload_n hx hb dX0_actsFor_4 rfl (lv_at hl 0 rfl) ?_
      refine lv_aload_n hx hb dX0_actsFor_5 rfl (lv_at hl 2 rfl) ?_
      refine va_get (D := (dC, dI)) (ci := 0) (v := .int (nI (ka))) (C := RX0) (T := TX0) (N := 5) hx hb hts (fun _ h => List.mem_cons_of_mem _ (List.mem_append_right _ h)) hown hK hP 0 rfl rfl 4 kc_l_4_5 (hts (.fieldLink RX0 24 "NotEnded$Acts" "size" "I") (List.mem_cons_of_mem _ (List.mem_append_left _ (List.mem_of_getElem? (i := 0) rfl)))) (fun _ h9 => h9) rfl dX0_actsFor_6 ?_
      refine lv_icmp_ge (tgt := 34) hx hb dX0_actsFor_9 kc_t_9_25 (fun c_2 => ?_) (fun c_2 => ?_)
      · have bd_4 : ka < 2147483648 := by omega
        have bd_5 : i < 2147483648 := by omega
        have hn_3 := kle (a := ka) (b := i) bd_4 bd_5 c_2
        refine lv_iload_n hx hb dX0_actsFor_34 rfl (lv_at hl 1 rfl) ?_
        rw [hQ]
        exact W.iret (v := nI (x9)) hx hb hr (fun t ht hW => ⟨nI (x9), rfl, ⟨_, by omega, rfl⟩, ht⟩) (fun _ h => nomatch h) dX0_actsFor_35
      · have bd_7 : ka < 2147483648 := by omega
        have bd_8 : i < 2147483648 := by omega
        have hn_6 := knle (a := ka) (b := i) bd_7 bd_8 c_2
        refine lv_aload_n hx hb dX0_actsFor_12 rfl (lv_at hl 2 rfl) ?_
        refine va_get (D := (dC, dI)) (ci := 0) (v := .ref i0) (C := RX0) (T := TX0) (N := 5) hx hb hts (fun _ h => List.mem_cons_of_mem _ (List.mem_append_right _ h)) hown hK hP 0 rfl rfl 0 kc_l_0_5 (hts (.fieldLink RX0 9 "NotEnded$Acts" "persons" "[I") (List.mem_cons_of_mem _ (List.mem_append_left _ (List.mem_of_getElem? (i := 1) rfl)))) (fun _ h9 => h9) rfl dX0_actsFor_13 ?_
        refine lv_iload_n hx hb dX0_actsFor_16 rfl (lv_at hl 0 rfl) ?_
        have bd_9 : i < 6 := by omega
        refine va_iald hx hb hK hP 1 0 rfl rfl (vp_in_nI (n := i) (N := 6) bd_9 kc_31_6) dX0_actsFor_17 ?_
        refine lv_topi (fun x_10 ex_10 => ?_)
        refine lv_iload_n hx hb dX0_actsFor_18 rfl (lv_at hl 3 rfl) ?_
        refine lv_icmp_ne (tgt := 28) hx hb dX0_actsFor_19 kc_t_19_9 (fun c_11 => ?_) (fun c_11 => ?_)
        · refine lv_iinc (v := nI (i + 1)) hx hb dX0_actsFor_28 hl (k := 0) rfl (kInc _ 1) kc_l_3_4 (kTo [(3, .int (nI (i + 1))), (2, .int (nI (x9))), (0, .ref jA), (1, .int p0)]) (fun ls hl => ?_)
          refine lv_goto (tgt := 4) hx hb dX0_actsFor_31 kc_t_31_m27 ?_
          exact ih_k_1 (i + 1) x9 (by omega) (by first | omega | exact kOr6 (by omega) (by omega)) ls (lv_sub hl [0, 1, 2, 3] rfl) (by omega)
        · refine lv_iload_n hx hb dX0_actsFor_22 rfl (lv_at hl 1 rfl) ?_
          refine lv_iconst (v := 1) hx hb dX0_actsFor_23 kc_i_1 ?_
          refine lv_iload_n hx hb dX0_actsFor_24 rfl (lv_at hl 0 rfl) ?_
          refine lv_ishl hx hb dX0_actsFor_25 ?_
          refine lv_topi (fun y_12 ey_12 => ?_)
          obtain rfl : y_12 = nI (2 ^ (i)) := ey_12.trans (kShl (n := i) (by omega))
          refine lv_ior hx hb dX0_actsFor_26 ?_
          refine lv_topi (fun y_13 ey_13 => ?_)
          obtain rfl : y_13 = nI ((x9) ||| (2 ^ (i))) := ey_13.trans (nI_or _ _)
          refine lv_istore_n hx hb dX0_actsFor_27 rfl hl kc_l_2_4 (kTo [(2, .int (nI ((x9) ||| (2 ^ (i))))), (3, .int (nI (i))), (0, .ref jA), (1, .int p0)]) (fun ls hl => ?_)
          refine lv_iinc (v := nI (i + 1)) hx hb dX0_actsFor_28 hl (k := 1) rfl (kInc _ 1) kc_l_3_4 (kTo [(3, .int (nI (i + 1))), (2, .int (nI ((x9) ||| (2 ^ (i))))), (0, .ref jA), (1, .int p0)]) (fun ls hl => ?_)
          refine lv_goto (tgt := 4) hx hb dX0_actsFor_31 kc_t_31_m27 ?_
          exact ih_k_1 (i + 1) ((x9) ||| (2 ^ (i))) (by omega) (by first | omega | exact kOr6 (by omega) (by omega)) ls (lv_sub hl [0, 1, 2, 3] rfl) (by omega)
  exact lp_k_1 (ka - 0 + 1) 0 0 (by omega) (by first | omega | exact kOr6 (by omega) (by omega)) ls (lv_sub hl [0, 1, 2, 3] rfl) (by omega)

theorem dJ7_copyOf_59c91_0 : decode cJ7_copyOf_59c91 0 = .ok (.iload_n 1, 1) := kDs0 kf_27 (by decide +kernel)
theorem dJ7_copyOf_59c91_1 : decode cJ7_copyOf_59c91 1 = .ok (.aload_n 0, 1) := kDs0 kf_42 (by decide +kernel)
theorem dJ7_copyOf_59c91_2 : decode cJ7_copyOf_59c91 2 = .ok (.arraylength, 1) := kDs0 kf_190 (by decide +kernel)
theorem dJ7_copyOf_59c91_3 : decode cJ7_copyOf_59c91 3 = .ok (.if_icmp .ne 11, 3) := kDs4 kf_160 (by decide +kernel)
theorem dJ7_copyOf_59c91_14 : decode cJ7_copyOf_59c91 14 = .ok (.iload_n 1, 1) := kDs0 kf_27 (by decide +kernel)
theorem dJ7_copyOf_59c91_15 : decode cJ7_copyOf_59c91 15 = .ok (.newarray .int, 2) := by decide +kernel
theorem dJ7_copyOf_59c91_17 : decode cJ7_copyOf_59c91 17 = .ok (.astore_n 2, 1) := kDs0 kf_77 (by decide +kernel)
theorem dJ7_copyOf_59c91_18 : decode cJ7_copyOf_59c91 18 = .ok (.aload_n 0, 1) := kDs0 kf_42 (by decide +kernel)
theorem dJ7_copyOf_59c91_19 : decode cJ7_copyOf_59c91 19 = .ok (.iconst 0, 1) := kDs0 kf_3 (by decide +kernel)
theorem dJ7_copyOf_59c91_20 : decode cJ7_copyOf_59c91 20 = .ok (.aload_n 2, 1) := kDs0 kf_44 (by decide +kernel)
theorem dJ7_copyOf_59c91_21 : decode cJ7_copyOf_59c91 21 = .ok (.iconst 0, 1) := kDs0 kf_3 (by decide +kernel)
theorem dJ7_copyOf_59c91_22 : decode cJ7_copyOf_59c91 22 = .ok (.aload_n 0, 1) := kDs0 kf_42 (by decide +kernel)
theorem dJ7_copyOf_59c91_23 : decode cJ7_copyOf_59c91 23 = .ok (.arraylength, 1) := kDs0 kf_190 (by decide +kernel)
theorem dJ7_copyOf_59c91_24 : decode cJ7_copyOf_59c91 24 = .ok (.iload_n 1, 1) := kDs0 kf_27 (by decide +kernel)
theorem dJ7_copyOf_59c91_25 : decode cJ7_copyOf_59c91 25 = .ok (.invokestatic 304, 3) := kDs2 kf_184 (by decide +kernel)
theorem dJ7_copyOf_59c91_28 : decode cJ7_copyOf_59c91 28 = .ok (.invokestatic 150, 3) := kDs2 kf_184 (by decide +kernel)
theorem dJ7_copyOf_59c91_31 : decode cJ7_copyOf_59c91 31 = .ok (.aload_n 2, 1) := kDs0 kf_44 (by decide +kernel)
theorem dJ7_copyOf_59c91_32 : decode cJ7_copyOf_59c91 32 = .ok (.areturn, 1) := kDs0 kf_176 (by decide +kernel)
theorem dJ7_copyOf_59c91_6 : decode cJ7_copyOf_59c91 6 = .ok (.aload_n 0, 1) := kDs0 kf_42 (by decide +kernel)
theorem dJ7_copyOf_59c91_7 : decode cJ7_copyOf_59c91 7 = .ok (.invokevirtual 316, 3) := kDs2 kf_182 (by decide +kernel)
theorem dJ7_copyOf_59c91_10 : decode cJ7_copyOf_59c91 10 = .ok (.checkcast 317, 3) := kDs2 kf_192 (by decide +kernel)
theorem dJ7_copyOf_59c91_13 : decode cJ7_copyOf_59c91 13 = .ok (.areturn, 1) := kDs0 kf_176 (by decide +kernel)
def w_s_copyOf : List Cond := .code yJ7_copyOf_59c91 cJ7_copyOf_59c91 3 (some (.array .int)) :: ([.arrayClass .int, .methodLink RJ7 304 Lib.Math.min.name, .static Lib.Math.min.name, .initialized RJ9, .code Lib.Math.min.name Lib.Math.min.code 2 (some .int), .methodLink RJ7 150 arraycopyName, .native arraycopyName, .static arraycopyName, .initialized RJ10, .methodLink RJ7 316 ⟨"[I", "clone", "()Ljava/lang/Object;"⟩, .sameMethod "[I" "java/lang/Object" "clone" "()Ljava/lang/Object;", .native ⟨"java/lang/Object", "clone", "()Ljava/lang/Object;"⟩, .instanceMethod ⟨"java/lang/Object", "clone", "()Ljava/lang/Object;"⟩, .selects "[I" ⟨"[I", "clone", "()Ljava/lang/Object;"⟩ ⟨"java/lang/Object", "clone", "()Ljava/lang/Object;"⟩, .classLink RJ7 317 "[I"] ++ [])
theorem gw_s_copyOf : (w_s_copyOf).all goodWord = true := kGc rfl (kGa (by decide +kernel) kGn)
theorem hd_J7_copyOf_59c91 : yJ7_copyOf_59c91.cls ≠ "java/lang/invoke/MethodHandle" ∧ yJ7_copyOf_59c91.cls ≠ "java/lang/invoke/VarHandle" ∧ (parseMethodDescriptor yJ7_copyOf_59c91.desc).map (fun d => d.parameters.length) = some 2 := by decide +kernel
set_option maxHeartbeats 4000000 in
set_option maxRecDepth 100000 in
theorem s_copyOf (l : Launch) (dC : Nat → ClassId) (dI : Nat → Nat → Nat) (ar : Nat) (cI : ClassId) (n : Nat) (g : Nat → Int32) (hn : n ≤ 200) (pn : Nat) (hpn : pn ≤ n) (sz : Nat) : Met l yJ7_copyOf_59c91 w_s_copyOf ({ frames := 2, cells := 1, slots := 200, locals := 120 }) (kW dC dI [.ref ar, .int (nI (pn))] [(ar, .inl (cI, n, .inl g))] [(cI, .int)] kCl sz) (va_Qr (fun (u : ClassId × Nat × (Nat → Int32)) => match u with | (cN, nN, gN) => (nN = pn ∧ ∀ j : Nat, j < pn → gN j = g j)) (fun (u : ClassId × Nat × (Nat → Int32)) (ra : Nat) (t : State) => match u with | (cN, nN, gN) => kB dC dI [(ar, .inl (cI, n, .inl g)), (ra, .inl (cN, nN, .inl gN))] [(cI, .int), (cN, .int)] (va_A [(ar, .inl (cI, n, .inl g))] sz) t) (va_A [(ar, .inl (cI, n, .inl g))] sz)) 1 200 (va_A [(ar, .inl (cI, n, .inl g))] sz) := by
  refine Met.ofW (cc := cJ7_copyOf_59c91) (maxL := 3) (ret := (some (.array .int))) (by decide) rfl ?_
  intro p e s m args below meth c s₁ B hml hv
  obtain ⟨rfl, hsz, hP, hK, hD0, hX⟩ := hv
  have hx := B.exec
  have hb := B.bytes
  have hr := B.returns
  have hts := atoms_spec (ws := w_s_copyOf) B.pre
  have hown : s.vm.findClass RJ7 = some m.cls := findClass_of_methodNamed B.named
  have hlocks := B.notSynchronized
  subst hsz
  have hD := hD0.self (sz := s.heap.size)
  generalize hAe : va_A [(ar, .inl (cI, n, .inl g))] s.heap.size = A at hD ⊢
  have hA : ∀ q : Nat, s.heap.size ≤ q → A q := fun q h => by rw [← hAe]; exact Or.inr h
  have hS : va_S A s.heap s.heap [] := va_S.rf
  have hP : va_P (dC, dI) vwCl [(ar, .inl (cI, n, .inl g))] s.heap := hP
  have hl := lv_entry ([.ref ar, .int (nI (pn))]) (n := 3) (Nat.le_of_ble_eq_true rfl)
  rw [lg_entry_eq]
  generalize (lg_sl ([.ref ar, .int (nI (pn))]) ++ List.replicate (3 - (lg_sl ([.ref ar, .int (nI (pn))])).length) Slot.unset).toArray = ls at hl ⊢
  have hl : lv_has ls 3 [(0, .ref ar), (1, .int (nI (pn)))] := hl
  refine kQ (fun Q hQ => ?_)
  refine lv_iload_n hx hb dJ7_copyOf_59c91_0 rfl (lv_at hl 1 rfl) ?_
  refine lv_aload_n hx hb dJ7_copyOf_59c91_1 rfl (lv_at hl 0 rfl) ?_
  refine va_alen hx hb hK hP 0 0 rfl rfl (v := nI (n)) rfl dJ7_copyOf_59c91_2 ?_
  refine lv_icmp_ne (tgt := 14) hx hb dJ7_copyOf_59c91_3 kc_t_3_11 (fun c_1 => ?_) (fun c_1 => ?_)
  · have bd_3 : pn < 2147483648 := by omega
    have bd_4 : n < 2147483648 := by omega
    have hn_2 := kneq (a := pn) (b := n) bd_3 bd_4 c_1
    refine lv_iload_n hx hb dJ7_copyOf_59c91_14 rfl (lv_at hl 1 rfl) ?_
    refine va_newa (atype := .int) hx hb (hts (.arrayClass .int) (List.mem_cons_of_mem _ (List.mem_append_left _ (List.mem_of_getElem? (i := 0) rfl)))) (ty := .int) rfl hK hP hD hS hA (a0 := (pn, .inl (fun _ => 0))) (N' := pn) (kA_int (pn)) (nI_pos (by omega)) (nI_clamp (by omega)) (Nat.le_trans (Nat.mul_le_mul_right _ (show pn ≤ 200 by omega)) (by decide)) (Nat.le_of_ble_eq_true rfl) (Nat.le_trans (show 0 + pn ≤ 200 by omega) (Nat.le_of_ble_eq_true rfl)) dJ7_copyOf_59c91_15 (fun q_5 cA_6 H hK hP hD hS => ?_)
    have hPD : kPD dC dI A [(ar, .inl (cI, n, .inl g)), (q_5, .inl (cA_6, pn, .inl (fun _ => 0)))] H := ⟨hP, hD⟩
    have hP := hPD.1
    have hD := hPD.2
    have hK : va_K (dC, dI) vwCl [(cI, .int), (cA_6, .int)] s := hK
    refine W.widen (k := 1) (n := 200) (Nat.le_of_ble_eq_true rfl) (show 0 + pn ≤ 200 by omega) ?_
    refine lv_astore_n hx hb dJ7_copyOf_59c91_17 rfl hl kc_l_2_3 (kTo [(2, .ref q_5), (0, .ref ar), (1, .int (nI (pn)))]) (fun ls hl => ?_)
    refine lv_aload_n hx hb dJ7_copyOf_59c91_18 rfl (lv_at hl 1 rfl) ?_
    refine lv_iconst (v := 0) hx hb dJ7_copyOf_59c91_19 kc_i_0 ?_
    refine lv_aload_n hx hb dJ7_copyOf_59c91_20 rfl (lv_at hl 0 rfl) ?_
    refine lv_iconst (v := 0) hx hb dJ7_copyOf_59c91_21 kc_i_0 ?_
    refine lv_aload_n hx hb dJ7_copyOf_59c91_22 rfl (lv_at hl 1 rfl) ?_
    refine va_alen hx hb hK hP 0 0 rfl rfl (v := nI (n)) rfl dJ7_copyOf_59c91_23 ?_
    refine lv_iload_n hx hb dJ7_copyOf_59c91_24 rfl (lv_at hl 2 rfl) ?_
    refine va_mmin hx hb (hml.trans hl.1.symm) hown (hts (.methodLink RJ7 304 Lib.Math.min.name) (List.mem_cons_of_mem _ (List.mem_append_left _ (List.mem_of_getElem? (i := 1) rfl)))) (hts (.static Lib.Math.min.name) (List.mem_cons_of_mem _ (List.mem_append_left _ (List.mem_of_getElem? (i := 2) rfl)))) (hts (.initialized RJ9) (List.mem_cons_of_mem _ (List.mem_append_left _ (List.mem_of_getElem? (i := 3) rfl)))) (hts (.code Lib.Math.min.name Lib.Math.min.code 2 (some .int)) (List.mem_cons_of_mem _ (List.mem_append_left _ (List.mem_of_getElem? (i := 4) rfl)))) (Nat.le_of_ble_eq_true rfl) (Nat.le_of_ble_eq_true rfl) (Nat.le_of_ble_eq_true rfl) (Nat.le_of_ble_eq_true rfl) dJ7_copyOf_59c91_25 ?_
    refine lv_topi (fun x_7 ex_7 => ?_)
    obtain rfl : x_7 = nI (pn) := kMinN (a := n) (b := pn) (by omega) (by omega) ex_7
    have ecl := nI_clamp (n := pn) (by omega)
    refine va_copyi hx hb (hml.trans hl.1.symm) hown (hts (.methodLink RJ7 150 arraycopyName) (List.mem_cons_of_mem _ (List.mem_append_left _ (List.mem_of_getElem? (i := 5) rfl)))) (hts (.native arraycopyName) (List.mem_cons_of_mem _ (List.mem_append_left _ (List.mem_of_getElem? (i := 6) rfl)))) (hts (.static arraycopyName) (List.mem_cons_of_mem _ (List.mem_append_left _ (List.mem_of_getElem? (i := 7) rfl)))) (hts (.initialized RJ10) (List.mem_cons_of_mem _ (List.mem_append_left _ (List.mem_of_getElem? (i := 8) rfl)))) hK hP hD hS 0 1 0 1 rfl rfl rfl rfl rfl (by decide) (by decide) (nI_pos (by omega)) (by rw [ecl]; show 0 + pn ≤ n; omega) (by rw [ecl]; show 0 + pn ≤ pn; omega) (fun _ _ => rfl) (Nat.le_of_ble_eq_true rfl) (Nat.le_of_ble_eq_true rfl) dJ7_copyOf_59c91_28 (fun H locs hP hD hS => ?_)
    obtain ⟨f_8, ef_8⟩ : ∃ gg9 : Nat → Int32, gg9 = va_cpy g (fun _ => 0) (Int32.toNatClampNeg 0) (Int32.toNatClampNeg 0) (Int32.toNatClampNeg (nI (pn))) := ⟨_, rfl⟩
    have hPD : kPD dC dI A [(ar, .inl (cI, n, .inl g)), (q_5, .inl (cA_6, pn, .inl f_8))] H := by rw [ef_8]; exact ⟨hP, hD⟩
    have hP := hPD.1
    have hD := hPD.2
    refine lv_aload_n hx hb dJ7_copyOf_59c91_31 rfl (lv_at hl 0 rfl) ?_
    have hPD : kPD dC dI A [(ar, .inl (cI, n, .inl g)), (q_5, .inl (cA_6, pn, .inl f_8))] H := ⟨hP.sub [0, 1] rfl, hD.sub [0, 1] kc_nd_434 rfl⟩
    have hP9 := hPD.1
    have hD9 := hPD.2
    have hK9 := hK
    refine W.widen (k := 1) (n := 200) (Nat.le_of_ble_eq_true rfl) (Nat.le_of_ble_eq_true rfl) ?_
    rw [hQ]
    exact W.aret hx hb hr (Or.inr ⟨_, rfl⟩) (Or.inr ⟨_, rfl⟩) (fun t ht hW => ⟨⟨(cA_6, pn, f_8), q_5, rfl, ⟨rfl, fun j hj => by rw [ef_8]; exact kCpy (by omega) hj⟩, by rw [ht]; exact hP9, va_K.moved hW.alike hK9, hD9⟩, hS.F ht⟩) hS.2.2 dJ7_copyOf_59c91_32
  · have bd_10 : pn < 2147483648 := by omega
    have bd_11 : n < 2147483648 := by omega
    have hn_9 := keq (a := pn) (b := n) bd_10 bd_11 c_1
    refine lv_aload_n hx hb dJ7_copyOf_59c91_6 rfl (lv_at hl 0 rfl) ?_
    refine va_clone (ad := "[I") hx hb (hml.trans hl.1.symm) hown (hts (.methodLink RJ7 316 ⟨"[I", "clone", "()Ljava/lang/Object;"⟩) (List.mem_cons_of_mem _ (List.mem_append_left _ (List.mem_of_getElem? (i := 9) rfl)))) (hts (.sameMethod "[I" "java/lang/Object" "clone" "()Ljava/lang/Object;") (List.mem_cons_of_mem _ (List.mem_append_left _ (List.mem_of_getElem? (i := 10) rfl)))) (hts (.native ⟨"java/lang/Object", "clone", "()Ljava/lang/Object;"⟩) (List.mem_cons_of_mem _ (List.mem_append_left _ (List.mem_of_getElem? (i := 11) rfl)))) (hts (.instanceMethod ⟨"java/lang/Object", "clone", "()Ljava/lang/Object;"⟩) (List.mem_cons_of_mem _ (List.mem_append_left _ (List.mem_of_getElem? (i := 12) rfl)))) (hts (.selects "[I" ⟨"[I", "clone", "()Ljava/lang/Object;"⟩ ⟨"java/lang/Object", "clone", "()Ljava/lang/Object;"⟩) (List.mem_cons_of_mem _ (List.mem_append_left _ (List.mem_of_getElem? (i := 13) rfl)))) hX hK hP hD hS hA 0 0 rfl rfl (va_nm_int (hK.2 0 _ rfl).2) (va_fit (fun _ _ => rfl)) (Nat.le_of_ble_eq_true rfl) (Nat.le_of_ble_eq_true rfl) (Nat.le_of_ble_eq_true rfl) (Nat.le_trans (show 0 + n ≤ 200 by omega) (Nat.le_of_ble_eq_true rfl)) dJ7_copyOf_59c91_7 (fun q_12 H hK hP hD hS => ?_)
    have hPD : kPD dC dI A [(ar, .inl (cI, n, .inl g)), (q_12, .inl (cI, n, .inl g))] H := ⟨hP, hD⟩
    have hP := hPD.1
    have hD := hPD.2
    have hK : va_K (dC, dI) vwCl [(cI, .int), (cI, .int)] s := hK
    refine W.widen (k := 1) (n := 200) (Nat.le_of_ble_eq_true rfl) (show 0 + n ≤ 200 by omega) ?_
    refine va_castA (nm := "[I") hx hb hown (hts (.classLink RJ7 317 "[I") (List.mem_cons_of_mem _ (List.mem_append_left _ (List.mem_of_getElem? (i := 14) rfl)))) hP 1 rfl (va_nm_int (hK.2 0 _ rfl).2) dJ7_copyOf_59c91_10 ?_
    have hPD : kPD dC dI A [(ar, .inl (cI, n, .inl g)), (q_12, .inl (cI, n, .inl g))] H := ⟨hP.sub [0, 1] rfl, hD.sub [0, 1] kc_nd_434 rfl⟩
    have hP9 := hPD.1
    have hD9 := hPD.2
    have hK9 := hK.sb (tys2 := [(cI, .int), (cI, .int)]) [0, 0] rfl
    refine W.widen (k := 1) (n := 200) (Nat.le_of_ble_eq_true rfl) (Nat.le_of_ble_eq_true rfl) ?_
    rw [hQ]
    exact W.aret hx hb hr (Or.inr ⟨_, rfl⟩) (Or.inr ⟨_, rfl⟩) (fun t ht hW => ⟨⟨(cI, n, g), q_12, rfl, ⟨by show n = pn; omega, fun _ _ => rfl⟩, by rw [ht]; exact hP9, va_K.moved hW.alike hK9, hD9⟩, hS.F ht⟩) hS.2.2 dJ7_copyOf_59c91_13

theorem dX6_init_0 : decode cX6_init 0 = .ok (.aload_n 0, 1) := kDs0 kf_42 (by decide +kernel)
theorem dX6_init_1 : decode cX6_init 1 = .ok (.invokespecial 1, 3) := kDs2 kf_183 (by decide +kernel)
theorem dX6_init_4 : decode cX6_init 4 = .ok (.aload_n 0, 1) := kDs0 kf_42 (by decide +kernel)
theorem dX6_init_5 : decode cX6_init 5 = .ok (.aload_n 1, 1) := kDs0 kf_43 (by decide +kernel)
theorem dX6_init_6 : decode cX6_init 6 = .ok (.putfield 7, 3) := kDs2 kf_181 (by decide +kernel)
theorem dX6_init_9 : decode cX6_init 9 = .ok (.aload_n 0, 1) := kDs0 kf_42 (by decide +kernel)
theorem dX6_init_10 : decode cX6_init 10 = .ok (.aload_n 2, 1) := kDs0 kf_44 (by decide +kernel)
theorem dX6_init_11 : decode cX6_init 11 = .ok (.putfield 13, 3) := kDs2 kf_181 (by decide +kernel)
theorem dX6_init_14 : decode cX6_init 14 = .ok (.return_, 1) := kDs0 kf_177 (by decide +kernel)
def w_s_init6 : List Cond := .code yX6_init cX6_init 3 none :: ([.methodLink RX6 1 objectInit, .instanceMethod objectInit, .code objectInit ⟨#[0xb1]⟩ 1 none, .fieldLink RX6 7 "NotEnded$Rule" "steps" "[I", .fieldLink RX6 13 "NotEnded$Rule" "clauses" "[I"] ++ (wsX60))
theorem gw_s_init6 : (w_s_init6).all goodWord = true := kGc rfl (kGa (by decide +kernel) gw_wsX60)
theorem hd_X6_init : yX6_init.cls ≠ "java/lang/invoke/MethodHandle" ∧ yX6_init.cls ≠ "java/lang/invoke/VarHandle" ∧ (parseMethodDescriptor yX6_init.desc).map (fun d => d.parameters.length) = some 2 := by decide +kernel
set_option maxHeartbeats 4000000 in
set_option maxRecDepth 100000 in
theorem s_init6 (l : Launch) (dC : Nat → ClassId) (dI : Nat → Nat → Nat) (ru : Nat) (sA : Nat) (cl : Nat) (sz : Nat) : Met l yX6_init w_s_init6 ({ frames := 2, cells := 0, slots := 0, locals := 120 }) (kW dC dI [.ref ru, .ref sA, .ref cl] [(ru, .inr (6, [.null, .null]))] [] kT sz) (va_Qv (fun (_ : Unit) => True) (fun (_ : Unit) => fun t : State => kB dC dI [(ru, .inr (6, [.ref sA, .ref cl]))] [] (va_A [(ru, .inr (6, [.null, .null]))] sz) t) (va_A [(ru, .inr (6, [.null, .null]))] sz)) 0 0 (va_A [(ru, .inr (6, [.null, .null]))] sz) := by
  refine Met.ofW (cc := cX6_init) (maxL := 3) (ret := none) (by decide) rfl ?_
  intro p e s m args below meth c s₁ B hml hv
  obtain ⟨rfl, hsz, hP, hK, hD0, hX⟩ := hv
  have hx := B.exec
  have hb := B.bytes
  have hr := B.returns
  have hts := atoms_spec (ws := w_s_init6) B.pre
  have hown : s.vm.findClass RX6 = some m.cls := findClass_of_methodNamed B.named
  have hlocks := B.notSynchronized
  have hin : meth.name = "<init>" := (name_of_methodNamed B.named B.method).1
  subst hsz
  have hD := hD0.self (sz := s.heap.size)
  generalize hAe : va_A [(ru, .inr (6, [.null, .null]))] s.heap.size = A at hD ⊢
  have hA : ∀ q : Nat, s.heap.size ≤ q → A q := fun q h => by rw [← hAe]; exact Or.inr h
  have hS : va_S A s.heap s.heap [] := va_S.rf
  have hP : va_P (dC, dI) vwCl [(ru, .inr (6, [.null, .null]))] s.heap := hP
  have hl := lv_entry ([.ref ru, .ref sA, .ref cl]) (n := 3) (Nat.le_of_ble_eq_true rfl)
  rw [lg_entry_eq]
  generalize (lg_sl ([.ref ru, .ref sA, .ref cl]) ++ List.replicate (3 - (lg_sl ([.ref ru, .ref sA, .ref cl])).length) Slot.unset).toArray = ls at hl ⊢
  have hl : lv_has ls 3 [(0, .ref ru), (1, .ref sA), (2, .ref cl)] := hl
  refine kQ (fun Q hQ => ?_)
  refine lv_aload_n hx hb dX6_init_0 rfl (lv_at hl 0 rfl) ?_
  refine W.objInit hx hb hown (hts (.methodLink RX6 1 objectInit) (List.mem_cons_of_mem _ (List.mem_append_left _ (List.mem_of_getElem? (i := 0) rfl)))) (hts (.instanceMethod objectInit) (List.mem_cons_of_mem _ (List.mem_append_left _ (List.mem_of_getElem? (i := 1) rfl)))) (hts (.code objectInit ⟨#[0xb1]⟩ 1 none) (List.mem_cons_of_mem _ (List.mem_append_left _ (List.mem_of_getElem? (i := 2) rfl)))) rfl (by rw [hml]; exact hl.1) rfl dX6_init_1 (Nat.le_of_ble_eq_true rfl) (Nat.le_of_ble_eq_true rfl) ?_
  refine W.eq (g2 := F0 m 4 ls []) rfl ?_
  refine lv_aload_n hx hb dX6_init_4 rfl (lv_at hl 0 rfl) ?_
  refine lv_aload_n hx hb dX6_init_5 rfl (lv_at hl 1 rfl) ?_
  refine va_putF (D := (dC, dI)) (ci := 6) (v := .ref sA) (ty := tyX6 0) (C := RX6) (T := TX6) (N := 2) hx hb hts (fun _ h => List.mem_cons_of_mem _ (List.mem_append_right _ h)) tyX6 tyX6_ok nmX6 hown hK hP hD hS 0 rfl rfl 0 kc_l_0_2 (hts (.fieldLink RX6 7 "NotEnded$Rule" "steps" "[I") (List.mem_cons_of_mem _ (List.mem_append_left _ (List.mem_of_getElem? (i := 3) rfl)))) (fun _ h9 => h9) rfl hin rfl (tyX6_ok 0 kc_l_0_2) rfl rfl (Nat.le_of_ble_eq_true rfl) dX6_init_6 (fun H locs hP hD hS => ?_)
  have hPD : kPD dC dI A [(ru, .inr (6, [.ref sA, .null]))] H := ⟨hP, hD⟩
  have hP := hPD.1
  have hD := hPD.2
  refine lv_aload_n hx hb dX6_init_9 rfl (lv_at hl 0 rfl) ?_
  refine lv_aload_n hx hb dX6_init_10 rfl (lv_at hl 2 rfl) ?_
  refine va_putF (D := (dC, dI)) (ci := 6) (v := .ref cl) (ty := tyX6 1) (C := RX6) (T := TX6) (N := 2) hx hb hts (fun _ h => List.mem_cons_of_mem _ (List.mem_append_right _ h)) tyX6 tyX6_ok nmX6 hown hK hP hD hS 0 rfl rfl 1 kc_l_1_2 (hts (.fieldLink RX6 13 "NotEnded$Rule" "clauses" "[I") (List.mem_cons_of_mem _ (List.mem_append_left _ (List.mem_of_getElem? (i := 4) rfl)))) (fun _ h9 => h9) rfl hin rfl (tyX6_ok 1 kc_l_1_2) rfl rfl (Nat.le_of_ble_eq_true rfl) dX6_init_11 (fun H locs hP hD hS => ?_)
  have hPD : kPD dC dI A [(ru, .inr (6, [.ref sA, .ref cl]))] H := ⟨hP, hD⟩
  have hP := hPD.1
  have hD := hPD.2
  have hP9 := hP
  have hD9 := hD
  have hK9 := hK
  rw [hQ]
  exact W.vret hx hb hr (fun t ht hW => ⟨⟨(), rfl, trivial,  by rw [ht]; exact hP9, va_K.moved hW.alike hK9, hD9⟩, hS.F ht⟩) hS.2.2 dX6_init_14

theorem dX4_rule_0 : decode cX4_rule 0 = .ok (.new 61, 3) := kDs2 kf_187 (by decide +kernel)
theorem dX4_rule_3 : decode cX4_rule 3 = .ok (.dup, 1) := kDs0 kf_89 (by decide +kernel)
theorem dX4_rule_4 : decode cX4_rule 4 = .ok (.aload_n 0, 1) := kDs0 kf_42 (by decide +kernel)
theorem dX4_rule_5 : decode cX4_rule 5 = .ok (.getfield 9, 3) := kDs2 kf_180 (by decide +kernel)
theorem dX4_rule_8 : decode cX4_rule 8 = .ok (.aload_n 0, 1) := kDs0 kf_42 (by decide +kernel)
theorem dX4_rule_9 : decode cX4_rule 9 = .ok (.getfield 18, 3) := kDs2 kf_180 (by decide +kernel)
theorem dX4_rule_12 : decode cX4_rule 12 = .ok (.invokestatic 63, 3) := kDs2 kf_184 (by decide +kernel)
theorem dX4_rule_15 : decode cX4_rule 15 = .ok (.aload_n 0, 1) := kDs0 kf_42 (by decide +kernel)
theorem dX4_rule_16 : decode cX4_rule 16 = .ok (.getfield 15, 3) := kDs2 kf_180 (by decide +kernel)
theorem dX4_rule_19 : decode cX4_rule 19 = .ok (.aload_n 0, 1) := kDs0 kf_42 (by decide +kernel)
theorem dX4_rule_20 : decode cX4_rule 20 = .ok (.getfield 22, 3) := kDs2 kf_180 (by decide +kernel)
theorem dX4_rule_23 : decode cX4_rule 23 = .ok (.invokestatic 63, 3) := kDs2 kf_184 (by decide +kernel)
theorem dX4_rule_26 : decode cX4_rule 26 = .ok (.invokespecial 69, 3) := kDs2 kf_183 (by decide +kernel)
theorem dX4_rule_29 : decode cX4_rule 29 = .ok (.areturn, 1) := kDs0 kf_176 (by decide +kernel)
def w_s_rule4 : List Cond := .code yX4_rule cX4_rule 1 (some (.object "NotEnded$Rule")) :: ([.classLink RX4 61 RX6, .instantiable RX6 2, .initialized RX6, .fieldLink RX4 9 "NotEnded$Reader" "steps" "[I", .fieldLink RX4 18 "NotEnded$Reader" "written" "I", .initialized RJ7, .static yJ7_copyOf_59c91, .methodLink RX4 63 yJ7_copyOf_59c91, .fieldLink RX4 15 "NotEnded$Reader" "clauses" "[I", .fieldLink RX4 22 "NotEnded$Reader" "filled" "I", .methodLink RX4 69 yX6_init, .instanceMethod yX6_init] ++ (wsX60 ++ (wsX40 ++ (w_s_copyOf ++ (w_s_init6)))))
theorem gw_s_rule4 : (w_s_rule4).all goodWord = true := kGc rfl (kGa (by decide +kernel) (kGa gw_wsX60 (kGa gw_wsX40 (kGa gw_s_copyOf gw_s_init6))))
theorem hd_X4_rule : yX4_rule.cls ≠ "java/lang/invoke/MethodHandle" ∧ yX4_rule.cls ≠ "java/lang/invoke/VarHandle" ∧ (parseMethodDescriptor yX4_rule.desc).map (fun d => d.parameters.length) = some 0 := by decide +kernel
set_option maxHeartbeats 4000000 in
set_option maxRecDepth 100000 in
theorem s_rule4 (l : Launch) (dC : Nat → ClassId) (dI : Nat → Nat → Nat) (jT : Nat) (t0 : Nat) (cC : ClassId) (gT : Nat → Int32) (kt : Nat) (hkt : kt ≤ 120) (hgT : ∀ j : Nat, narrow .char (.int (gT j)) = .int (gT j)) (jR : Nat) (r1 : Nat) (r2 : Nat) (c1 : ClassId) (c2 : ClassId) (s1 : Nat → Int32) (s2 : Nat → Int32) (wr : Nat) (fi : Nat) (pl : Int32) (hwr : wr ≤ 120) (hfi : fi ≤ 124) (v6 : Value) (v7 : Value) (sz : Nat) : Met l yX4_rule w_s_rule4 ({ frames := 3, cells := 3, slots := 402, locals := 180 }) (kW dC dI [.ref jR] [(jR, .inr (4, [.ref jT, .ref r1, .ref r2, .int (nI (wr)), .int (nI (fi)), .int pl, v6, v7])), (r1, .inl (c1, 120, .inl s1)), (r2, .inl (c2, 124, .inl s2)), (jT, .inr (8, [.ref t0, .int (nI (kt))])), (t0, .inl (cC, 120, .inl gT))] [(c1, .int), (c2, .int), (cC, .char)] kCl sz) (va_Qr (fun (u : Nat × Nat × ClassId × ClassId × Nat × Nat × (Nat → Int32) × (Nat → Int32)) => match u with | (sA, cl, cS, cc, nS, nC, gS, gC) => (nS = wr ∧ nC = fi ∧ (∀ j : Nat, j < wr → gS j = s1 j) ∧ (∀ j : Nat, j < fi → gC j = s2 j))) (fun (u : Nat × Nat × ClassId × ClassId × Nat × Nat × (Nat → Int32) × (Nat → Int32)) (ra : Nat) (t : State) => match u with | (sA, cl, cS, cc, nS, nC, gS, gC) => kB dC dI [(jR, .inr (4, [.ref jT, .ref r1, .ref r2, .int (nI (wr)), .int (nI (fi)), .int pl, v6, v7])), (r1, .inl (c1, 120, .inl s1)), (r2, .inl (c2, 124, .inl s2)), (jT, .inr (8, [.ref t0, .int (nI (kt))])), (t0, .inl (cC, 120, .inl gT)), (ra, .inr (6, [.ref sA, .ref cl])), (sA, .inl (cS, nS, .inl gS)), (cl, .inl (cc, nC, .inl gC))] [(c1, .int), (c2, .int), (cC, .char), (cS, .int), (cc, .int)] (va_A [(jR, .inr (4, [.ref jT, .ref r1, .ref r2, .int (nI (wr)), .int (nI (fi)), .int pl, v6, v7])), (r1, .inl (c1, 120, .inl s1)), (r2, .inl (c2, 124, .inl s2)), (jT, .inr (8, [.ref t0, .int (nI (kt))])), (t0, .inl (cC, 120, .inl gT))] sz) t) (va_A [(jR, .inr (4, [.ref jT, .ref r1, .ref r2, .int (nI (wr)), .int (nI (fi)), .int pl, v6, v7])), (r1, .inl (c1, 120, .inl s1)), (r2, .inl (c2, 124, .inl s2)), (jT, .inr (8, [.ref t0, .int (nI (kt))])), (t0, .inl (cC, 120, .inl gT))] sz)) 3 402 (va_A [(jR, .inr (4, [.ref jT, .ref r1, .ref r2, .int (nI (wr)), .int (nI (fi)), .int pl, v6, v7])), (r1, .inl (c1, 120, .inl s1)), (r2, .inl (c2, 124, .inl s2)), (jT, .inr (8, [.ref t0, .int (nI (kt))])), (t0, .inl (cC, 120, .inl gT))] sz) := by
  refine Met.ofW (cc := cX4_rule) (maxL := 1) (ret := (some (.object "NotEnded$Rule"))) (by decide) rfl ?_
  intro p e s m args below meth c s₁ B hml hv
  obtain ⟨rfl, hsz, hP, hK, hD0, hX⟩ := hv
  have hx := B.exec
  have hb := B.bytes
  have hr := B.returns
  have hts := atoms_spec (ws := w_s_rule4) B.pre
  have hown : s.vm.findClass RX4 = some m.cls := findClass_of_methodNamed B.named
  have hlocks := B.notSynchronized
  subst hsz
  have hD := hD0.self (sz := s.heap.size)
  generalize hAe : va_A [(jR, .inr (4, [.ref jT, .ref r1, .ref r2, .int (nI (wr)), .int (nI (fi)), .int pl, v6, v7])), (r1, .inl (c1, 120, .inl s1)), (r2, .inl (c2, 124, .inl s2)), (jT, .inr (8, [.ref t0, .int (nI (kt))])), (t0, .inl (cC, 120, .inl gT))] s.heap.size = A at hD ⊢
  have hA : ∀ q : Nat, s.heap.size ≤ q → A q := fun q h => by rw [← hAe]; exact Or.inr h
  have hS : va_S A s.heap s.heap [] := va_S.rf
  have hP : va_P (dC, dI) vwCl [(jR, .inr (4, [.ref jT, .ref r1, .ref r2, .int (nI (wr)), .int (nI (fi)), .int pl, v6, v7])), (r1, .inl (c1, 120, .inl s1)), (r2, .inl (c2, 124, .inl s2)), (jT, .inr (8, [.ref t0, .int (nI (kt))])), (t0, .inl (cC, 120, .inl gT))] s.heap := hP
  have hl := lv_entry ([.ref jR]) (n := 1) (Nat.le_of_ble_eq_true rfl)
  rw [lg_entry_eq]
  generalize (lg_sl ([.ref jR]) ++ List.replicate (1 - (lg_sl ([.ref jR])).length) Slot.unset).toArray = ls at hl ⊢
  have hl : lv_has ls 1 [(0, .ref jR)] := hl
  refine kQ (fun Q hQ => ?_)
  refine va_new (ci := 6) (fs := [.null, .null]) (C := RX6) (T := TX6) (N := 2) hx hb hts (fun _ h => List.mem_cons_of_mem _ (List.mem_append_right _ (List.mem_append_left _ h))) tyX6 tyX6_ok hown (hts (.classLink RX4 61 RX6) (List.mem_cons_of_mem _ (List.mem_append_left _ (List.mem_of_getElem? (i := 0) rfl)))) (hts (.instantiable RX6 2) (List.mem_cons_of_mem _ (List.mem_append_left _ (List.mem_of_getElem? (i := 1) rfl)))) (hts (.initialized RX6) (List.mem_cons_of_mem _ (List.mem_append_left _ (List.mem_of_getElem? (i := 2) rfl)))) hK hP hD hS hA rfl (fun j hj => by rcases (show j = 0 ∨ j = 1 by omega) with rfl | rfl <;> rfl) (Nat.le_of_ble_eq_true rfl) (Nat.le_of_ble_eq_true rfl) dX4_rule_0 (fun q_1 H hP hD hS => ?_)
  have hPD : kPD dC dI A [(jR, .inr (4, [.ref jT, .ref r1, .ref r2, .int (nI (wr)), .int (nI (fi)), .int pl, v6, v7])), (r1, .inl (c1, 120, .inl s1)), (r2, .inl (c2, 124, .inl s2)), (jT, .inr (8, [.ref t0, .int (nI (kt))])), (t0, .inl (cC, 120, .inl gT)), (q_1, .inr (6, [.null, .null]))] H := ⟨hP, hD⟩
  have hP := hPD.1
  have hD := hPD.2
  refine W.widen (k := 1) (n := 2) (Nat.le_of_ble_eq_true rfl) (Nat.le_of_ble_eq_true rfl) ?_
  refine lv_dup hx hb dX4_rule_3 rfl ?_
  refine lv_aload_n hx hb dX4_rule_4 rfl (lv_at hl 0 rfl) ?_
  refine va_get (D := (dC, dI)) (ci := 4) (v := .ref r1) (C := RX4) (T := TX4) (N := 8) hx hb hts (fun _ h => List.mem_cons_of_mem _ (List.mem_append_right _ (List.mem_append_right _ (List.mem_append_left _ h)))) hown hK hP 0 rfl rfl 1 kc_l_1_8 (hts (.fieldLink RX4 9 "NotEnded$Reader" "steps" "[I") (List.mem_cons_of_mem _ (List.mem_append_left _ (List.mem_of_getElem? (i := 3) rfl)))) (fun _ h9 => h9) rfl dX4_rule_5 ?_
  refine lv_aload_n hx hb dX4_rule_8 rfl (lv_at hl 0 rfl) ?_
  refine va_get (D := (dC, dI)) (ci := 4) (v := .int (nI (wr))) (C := RX4) (T := TX4) (N := 8) hx hb hts (fun _ h => List.mem_cons_of_mem _ (List.mem_append_right _ (List.mem_append_right _ (List.mem_append_left _ h)))) hown hK hP 0 rfl rfl 3 kc_l_3_8 (hts (.fieldLink RX4 18 "NotEnded$Reader" "written" "I") (List.mem_cons_of_mem _ (List.mem_append_left _ (List.mem_of_getElem? (i := 4) rfl)))) (fun _ h9 => h9) rfl dX4_rule_9 ?_
  have hCu := kCut (wc := [(r1, .inl (c1, 120, .inl s1))]) hP hD hS hA [1] rfl kc_nd_435 rfl
  have hPc := hCu.1
  have hDc := hCu.2.1
  have hFc := hCu.2.2
  have hKc := hK.sb (tys2 := [(c1, .int)]) [0] rfl
  refine va_callr (va_runS (As := [.ref r1, .int (nI (wr))]) (rest := [.ref q_1, .ref q_1]) ⟨hx, hb, hml, hown, hts⟩ (s_copyOf l dC dI r1 c1 120 s1 (Nat.le_of_ble_eq_true rfl) wr hwr H.size) (va_cwS 2 hts (kG (List.forall_mem_cons.mpr ⟨(List.mem_cons_of_mem _ (List.mem_append_left _ (List.mem_of_getElem? (i := 7) rfl))), (List.forall_mem_cons.mpr ⟨(List.mem_cons_of_mem _ (List.mem_append_left _ (List.mem_of_getElem? (i := 6) rfl))), (List.forall_mem_cons.mpr ⟨(List.mem_cons_of_mem _ (List.mem_append_left _ (List.mem_of_getElem? (i := 5) rfl))), (fun _ h => absurd h List.not_mem_nil)⟩)⟩)⟩) (kGS _ _ _) (fun _ h => List.mem_cons_of_mem _ (List.mem_append_right _ (List.mem_append_right _ (List.mem_append_right _ (List.mem_append_left _ h))))) gw_s_copyOf) rfl rfl rfl hd_J7_copyOf_59c91 ⟨(Nat.le_of_ble_eq_true rfl), (Nat.le_of_ble_eq_true rfl)⟩) (kW_S kCl_blind (kCl_give hX) hPc hKc hDc) rfl rfl hl.1 rfl (lv_room (Nat.le_of_ble_eq_true rfl)) dX4_rule_12 ⟨(Nat.le_of_ble_eq_true rfl), (Nat.le_of_ble_eq_true rfl)⟩) hS (fun q _ h => hFc q h) hFc (kU3 (fun cN_3 nN_4 gN_5 r_2 t H1 locs ht hvm hw hB hz1 hk1 hS => ?_))
  obtain ⟨hP1, hK1, hD1⟩ := hB
  rw [ht] at hP1
  try dsimp only at hw
  have hPD : kPD dC dI A [(jR, .inr (4, [.ref jT, .ref r1, .ref r2, .int (nI (wr)), .int (nI (fi)), .int pl, v6, v7])), (r2, .inl (c2, 124, .inl s2)), (jT, .inr (8, [.ref t0, .int (nI (kt))])), (t0, .inl (cC, 120, .inl gT)), (q_1, .inr (6, [.null, .null])), (r1, .inl (c1, 120, .inl s1)), (r_2, .inl (cN_3, nN_4, .inl gN_5))] H1 := kJoin hP hD [1] [0, 2, 3, 4, 5] rfl rfl (by decide) (by decide) hk1 hFc hP1 hD1 rfl
  have hP := hPD.1
  have hD := hPD.2
  have hK1 := va_K.moved hvm.symm hK1
  have hK := hK.app hK1
  have hK : va_K (dC, dI) vwCl [(c1, .int), (c2, .int), (cC, .char), (c1, .int), (cN_3, .int)] s := hK
  generalize H1 = H at hP hS ⊢
  refine W.widen (k := 2) (n := 202) (Nat.le_of_ble_eq_true rfl) (Nat.le_of_ble_eq_true rfl) ?_
  have hw_6 := hw
  have hw_6_0 := hw_6.1
  refine lv_aload_n hx hb dX4_rule_15 rfl (lv_at hl 0 rfl) ?_
  refine va_get (D := (dC, dI)) (ci := 4) (v := .ref r2) (C := RX4) (T := TX4) (N := 8) hx hb hts (fun _ h => List.mem_cons_of_mem _ (List.mem_append_right _ (List.mem_append_right _ (List.mem_append_left _ h)))) hown hK hP 0 rfl rfl 2 kc_l_2_8 (hts (.fieldLink RX4 15 "NotEnded$Reader" "clauses" "[I") (List.mem_cons_of_mem _ (List.mem_append_left _ (List.mem_of_getElem? (i := 8) rfl)))) (fun _ h9 => h9) rfl dX4_rule_16 ?_
  refine lv_aload_n hx hb dX4_rule_19 rfl (lv_at hl 0 rfl) ?_
  refine va_get (D := (dC, dI)) (ci := 4) (v := .int (nI (fi))) (C := RX4) (T := TX4) (N := 8) hx hb hts (fun _ h => List.mem_cons_of_mem _ (List.mem_append_right _ (List.mem_append_right _ (List.mem_append_left _ h)))) hown hK hP 0 rfl rfl 4 kc_l_4_8 (hts (.fieldLink RX4 22 "NotEnded$Reader" "filled" "I") (List.mem_cons_of_mem _ (List.mem_append_left _ (List.mem_of_getElem? (i := 9) rfl)))) (fun _ h9 => h9) rfl dX4_rule_20 ?_
  have hCu := kCut (wc := [(r2, .inl (c2, 124, .inl s2))]) hP hD hS hA [1] rfl kc_nd_435 rfl
  have hPc := hCu.1
  have hDc := hCu.2.1
  have hFc := hCu.2.2
  have hKc := hK.sb (tys2 := [(c2, .int)]) [1] rfl
  refine va_callr (va_runS (As := [.ref r2, .int (nI (fi))]) (rest := [.ref r_2, .ref q_1, .ref q_1]) ⟨hx, hb, hml, hown, hts⟩ (s_copyOf l dC dI r2 c2 124 s2 (Nat.le_of_ble_eq_true rfl) fi hfi H.size) (va_cwS 2 hts (kG (List.forall_mem_cons.mpr ⟨(List.mem_cons_of_mem _ (List.mem_append_left _ (List.mem_of_getElem? (i := 7) rfl))), (List.forall_mem_cons.mpr ⟨(List.mem_cons_of_mem _ (List.mem_append_left _ (List.mem_of_getElem? (i := 6) rfl))), (List.forall_mem_cons.mpr ⟨(List.mem_cons_of_mem _ (List.mem_append_left _ (List.mem_of_getElem? (i := 5) rfl))), (fun _ h => absurd h List.not_mem_nil)⟩)⟩)⟩) (kGS _ _ _) (fun _ h => List.mem_cons_of_mem _ (List.mem_append_right _ (List.mem_append_right _ (List.mem_append_right _ (List.mem_append_left _ h))))) gw_s_copyOf) rfl rfl rfl hd_J7_copyOf_59c91 ⟨(Nat.le_of_ble_eq_true rfl), (Nat.le_of_ble_eq_true rfl)⟩) (kW_S kCl_blind (kCl_give hX) hPc hKc hDc) rfl rfl hl.1 rfl (lv_room (Nat.le_of_ble_eq_true rfl)) dX4_rule_23 ⟨(Nat.le_of_ble_eq_true rfl), (Nat.le_of_ble_eq_true rfl)⟩) hS (fun q _ h => hFc q h) hFc (kU3 (fun cN_8 nN_9 gN_10 r_7 t H1 locs ht hvm hw hB hz1 hk1 hS => ?_))
  obtain ⟨hP1, hK1, hD1⟩ := hB
  rw [ht] at hP1
  try dsimp only at hw
  have hPD : kPD dC dI A [(jR, .inr (4, [.ref jT, .ref r1, .ref r2, .int (nI (wr)), .int (nI (fi)), .int pl, v6, v7])), (jT, .inr (8, [.ref t0, .int (nI (kt))])), (t0, .inl (cC, 120, .inl gT)), (q_1, .inr (6, [.null, .null])), (r1, .inl (c1, 120, .inl s1)), (r_2, .inl (cN_3, nN_4, .inl gN_5)), (r2, .inl (c2, 124, .inl s2)), (r_7, .inl (cN_8, nN_9, .inl gN_10))] H1 := kJoin hP hD [1] [0, 2, 3, 4, 5, 6] rfl rfl (by decide) (by decide) hk1 hFc hP1 hD1 rfl
  have hP := hPD.1
  have hD := hPD.2
  have hK1 := va_K.moved hvm.symm hK1
  have hK := hK.app hK1
  have hK : va_K (dC, dI) vwCl [(c1, .int), (c2, .int), (cC, .char), (c1, .int), (cN_3, .int), (c2, .int), (cN_8, .int)] s := hK
  generalize H1 = H at hP hS ⊢
  refine W.widen (k := 3) (n := 402) (Nat.le_of_ble_eq_true rfl) (Nat.le_of_ble_eq_true rfl) ?_
  have hw_11 := hw
  have hw_11_0 := hw_11.1
  have hCu := kCut (wc := [(q_1, .inr (6, [.null, .null]))]) hP hD hS hA [3] rfl kc_nd_436 rfl
  have hPc := hCu.1
  have hDc := hCu.2.1
  have hFc := hCu.2.2
  have hKc := hK.sb (tys2 := []) [] rfl
  refine va_callv (va_runI (As := [.ref r_2, .ref r_7]) (rest := [.ref q_1]) ⟨hx, hb, hml, hown, hts⟩ (s_init6 l dC dI q_1 r_2 r_7 H.size) (cwI 2 hts (goodIn_sub (fun _ h => List.mem_cons_of_mem _ (List.mem_append_right _ (List.mem_append_right _ (List.mem_append_right _ (List.mem_append_right _ h))))) gw_s_init6) rfl rfl rfl (hts (.initialized RX6) (List.mem_cons_of_mem _ (List.mem_append_left _ (List.mem_of_getElem? (i := 2) rfl)))) (hts (.methodLink RX4 69 yX6_init) (List.mem_cons_of_mem _ (List.mem_append_left _ (List.mem_of_getElem? (i := 10) rfl)))) (hts (.instanceMethod yX6_init) (List.mem_cons_of_mem _ (List.mem_append_left _ (List.mem_of_getElem? (i := 11) rfl)))) rfl hd_X6_init ⟨(Nat.le_of_ble_eq_true rfl), (Nat.le_of_ble_eq_true rfl)⟩) (kW_S kT_blind kT_give hPc hKc hDc) rfl rfl hl.1 rfl (lv_room (Nat.le_of_ble_eq_true rfl)) dX4_rule_26 ⟨(Nat.le_of_ble_eq_true rfl), (Nat.le_of_ble_eq_true rfl)⟩) hS (fun q _ h => hFc q h) hFc (fun _ t H_12 locs ht hvm hw hB hz1 hk1 hS => ?_)
  have hPD : kPD dC dI A [(jR, .inr (4, [.ref jT, .ref r1, .ref r2, .int (nI (wr)), .int (nI (fi)), .int pl, v6, v7])), (jT, .inr (8, [.ref t0, .int (nI (kt))])), (t0, .inl (cC, 120, .inl gT)), (q_1, .inr (6, [.ref r_2, .ref r_7])), (r1, .inl (c1, 120, .inl s1)), (r_2, .inl (cN_3, nN_4, .inl gN_5)), (r2, .inl (c2, 124, .inl s2)), (r_7, .inl (cN_8, nN_9, .inl gN_10))] H_12 := kJoinX hP hD [3] rfl hk1 hFc hB.1 ht hB.2.2 rfl [none, none, none, some 0, none, none, none, none] rfl rfl
  have hP := hPD.1
  have hD := hPD.2
  have hPD : kPD dC dI A [(jR, .inr (4, [.ref jT, .ref r1, .ref r2, .int (nI (wr)), .int (nI (fi)), .int pl, v6, v7])), (r1, .inl (c1, 120, .inl s1)), (r2, .inl (c2, 124, .inl s2)), (jT, .inr (8, [.ref t0, .int (nI (kt))])), (t0, .inl (cC, 120, .inl gT)), (q_1, .inr (6, [.ref r_2, .ref r_7])), (r_2, .inl (cN_3, nN_4, .inl gN_5)), (r_7, .inl (cN_8, nN_9, .inl gN_10))] H_12 := ⟨hP.sub [0, 4, 6, 1, 2, 3, 5, 7] rfl, hD.sub [0, 4, 6, 1, 2, 3, 5, 7] kc_nd_437 rfl⟩
  have hP9 := hPD.1
  have hD9 := hPD.2
  have hK9 := hK.sb (tys2 := [(c1, .int), (c2, .int), (cC, .char), (cN_3, .int), (cN_8, .int)]) [0, 1, 2, 4, 6] rfl
  refine W.widen (k := 3) (n := 402) (Nat.le_of_ble_eq_true rfl) (Nat.le_of_ble_eq_true rfl) ?_
  rw [hQ]
  exact W.aret hx hb hr (Or.inl ⟨_, rfl⟩) (Or.inr ⟨_, rfl⟩) (fun t ht hW => ⟨⟨(r_2, r_7, cN_3, cN_8, nN_4, nN_9, gN_5, gN_10), q_1, rfl, ⟨hw_6.1, hw_11.1, hw_6.2, hw_11.2⟩, by rw [ht]; exact hP9, va_K.moved hW.alike hK9, hD9⟩, hS.F ht⟩) hS.2.2 dX4_rule_29

theorem dX7_size_0 : decode cX7_size 0 = .ok (.aload_n 0, 1) := kDs0 kf_42 (by decide +kernel)
theorem dX7_size_1 : decode cX7_size 1 = .ok (.getfield 9, 3) := kDs2 kf_180 (by decide +kernel)
theorem dX7_size_4 : decode cX7_size 4 = .ok (.ireturn, 1) := kDs0 kf_172 (by decide +kernel)
def w_s_size7 : List Cond := .code yX7_size cX7_size 1 (some .int) :: ([.fieldLink RX7 9 "NotEnded$Shelf" "size" "I"] ++ (wsX70))
theorem gw_s_size7 : (w_s_size7).all goodWord = true := kGc rfl (kGa (by decide +kernel) gw_wsX70)
theorem hd_X7_size : yX7_size.cls ≠ "java/lang/invoke/MethodHandle" ∧ yX7_size.cls ≠ "java/lang/invoke/VarHandle" ∧ (parseMethodDescriptor yX7_size.desc).map (fun d => d.parameters.length) = some 0 := by decide +kernel
set_option maxHeartbeats 4000000 in
set_option maxRecDepth 100000 in
theorem s_size7 (l : Launch) (dC : Nat → ClassId) (dI : Nat → Nat → Nat) (jS : Nat) (rS : Nat) (cH : ClassId) (gH : Nat → Option Nat) (kh : Nat) (nH : Nat) (hnH : nH ≤ 8) (hkh : kh ≤ nH) : Met l yX7_size w_s_size7 ({ frames := 1, cells := 0, slots := 0, locals := 60 }) (kR dC dI [.ref jS] [(jS, .inr (7, [.ref rS, .int (nI (kh))])), (rS, .inl (cH, nH, .inr (.inr (.inr (.inr gH)))))] [(cH, .object RX6)] kT) (vp_Si (fun r : Int32 => r = nI kh)) 0 0 (fun _ => False) := by
  refine Met.ofW (cc := cX7_size) (maxL := 1) (ret := (some .int)) (by decide) rfl ?_
  intro p e s m args below meth c s₁ B hml hv
  obtain ⟨rfl, hP, hK, hX⟩ := hv
  have hx := B.exec
  have hb := B.bytes
  have hr := B.returns
  have hts := atoms_spec (ws := w_s_size7) B.pre
  have hown : s.vm.findClass RX7 = some m.cls := findClass_of_methodNamed B.named
  have hlocks := B.notSynchronized
  have hP : va_P (dC, dI) vwCl [(jS, .inr (7, [.ref rS, .int (nI (kh))])), (rS, .inl (cH, nH, .inr (.inr (.inr (.inr gH)))))] s.heap := hP
  have hl := lv_entry ([.ref jS]) (n := 1) (Nat.le_of_ble_eq_true rfl)
  rw [lg_entry_eq]
  generalize (lg_sl ([.ref jS]) ++ List.replicate (1 - (lg_sl ([.ref jS])).length) Slot.unset).toArray = ls at hl ⊢
  have hl : lv_has ls 1 [(0, .ref jS)] := hl
  refine kQ (fun Q hQ => ?_)
  refine lv_aload_n hx hb dX7_size_0 rfl (lv_at hl 0 rfl) ?_
  refine va_get (D := (dC, dI)) (ci := 7) (v := .int (nI (kh))) (C := RX7) (T := TX7) (N := 2) hx hb hts (fun _ h => List.mem_cons_of_mem _ (List.mem_append_right _ h)) hown hK hP 0 rfl rfl 1 kc_l_1_2 (hts (.fieldLink RX7 9 "NotEnded$Shelf" "size" "I") (List.mem_cons_of_mem _ (List.mem_append_left _ (List.mem_of_getElem? (i := 0) rfl)))) (fun _ h9 => h9) rfl dX7_size_1 ?_
  rw [hQ]
  exact W.iret (v := nI (kh)) hx hb hr (fun t ht hW => ⟨nI (kh), rfl, rfl, ht⟩) (fun _ h => nomatch h) dX7_size_4

theorem dX7_isFull_0 : decode cX7_isFull 0 = .ok (.aload_n 0, 1) := kDs0 kf_42 (by decide +kernel)
theorem dX7_isFull_1 : decode cX7_isFull 1 = .ok (.getfield 9, 3) := kDs2 kf_180 (by decide +kernel)
theorem dX7_isFull_4 : decode cX7_isFull 4 = .ok (.aload_n 0, 1) := kDs0 kf_42 (by decide +kernel)
theorem dX7_isFull_5 : decode cX7_isFull 5 = .ok (.getfield 17, 3) := kDs2 kf_180 (by decide +kernel)
theorem dX7_isFull_8 : decode cX7_isFull 8 = .ok (.arraylength, 1) := kDs0 kf_190 (by decide +kernel)
theorem dX7_isFull_9 : decode cX7_isFull 9 = .ok (.if_icmp .lt 7, 3) := kDs4 kf_161 (by decide +kernel)
theorem dX7_isFull_16 : decode cX7_isFull 16 = .ok (.iconst 0, 1) := kDs0 kf_3 (by decide +kernel)
theorem dX7_isFull_17 : decode cX7_isFull 17 = .ok (.ireturn, 1) := kDs0 kf_172 (by decide +kernel)
theorem dX7_isFull_12 : decode cX7_isFull 12 = .ok (.iconst 1, 1) := kDs0 kf_4 (by decide +kernel)
theorem dX7_isFull_13 : decode cX7_isFull 13 = .ok (.goto 4, 3) := kDs4 kf_167 (by decide +kernel)
def w_s_isFull7 : List Cond := .code yX7_isFull cX7_isFull 1 (some .boolean) :: ([.fieldLink RX7 9 "NotEnded$Shelf" "size" "I", .fieldLink RX7 17 "NotEnded$Shelf" "rules" "[LNotEnded$Rule;"] ++ (wsX70))
theorem gw_s_isFull7 : (w_s_isFull7).all goodWord = true := kGc rfl (kGa (by decide +kernel) gw_wsX70)
theorem hd_X7_isFull : yX7_isFull.cls ≠ "java/lang/invoke/MethodHandle" ∧ yX7_isFull.cls ≠ "java/lang/invoke/VarHandle" ∧ (parseMethodDescriptor yX7_isFull.desc).map (fun d => d.parameters.length) = some 0 := by decide +kernel
set_option maxHeartbeats 4000000 in
set_option maxRecDepth 100000 in
theorem s_isFull7 (l : Launch) (dC : Nat → ClassId) (dI : Nat → Nat → Nat) (jS : Nat) (rS : Nat) (cH : ClassId) (gH : Nat → Option Nat) (kh : Nat) (nH : Nat) (hnH : nH ≤ 8) (hkh : kh ≤ nH) : Met l yX7_isFull w_s_isFull7 ({ frames := 1, cells := 0, slots := 0, locals := 60 }) (kR dC dI [.ref jS] [(jS, .inr (7, [.ref rS, .int (nI (kh))])), (rS, .inl (cH, nH, .inr (.inr (.inr (.inr gH)))))] [(cH, .object RX6)] kT) (vp_Si (fun r : Int32 => r = (if kh < nH then 0 else 1))) 0 0 (fun _ => False) := by
  refine Met.ofW (cc := cX7_isFull) (maxL := 1) (ret := (some .boolean)) (by decide) rfl ?_
  intro p e s m args below meth c s₁ B hml hv
  obtain ⟨rfl, hP, hK, hX⟩ := hv
  have hx := B.exec
  have hb := B.bytes
  have hr := B.returns
  have hts := atoms_spec (ws := w_s_isFull7) B.pre
  have hown : s.vm.findClass RX7 = some m.cls := findClass_of_methodNamed B.named
  have hlocks := B.notSynchronized
  have hP : va_P (dC, dI) vwCl [(jS, .inr (7, [.ref rS, .int (nI (kh))])), (rS, .inl (cH, nH, .inr (.inr (.inr (.inr gH)))))] s.heap := hP
  have hl := lv_entry ([.ref jS]) (n := 1) (Nat.le_of_ble_eq_true rfl)
  rw [lg_entry_eq]
  generalize (lg_sl ([.ref jS]) ++ List.replicate (1 - (lg_sl ([.ref jS])).length) Slot.unset).toArray = ls at hl ⊢
  have hl : lv_has ls 1 [(0, .ref jS)] := hl
  refine kQ (fun Q hQ => ?_)
  refine lv_aload_n hx hb dX7_isFull_0 rfl (lv_at hl 0 rfl) ?_
  refine va_get (D := (dC, dI)) (ci := 7) (v := .int (nI (kh))) (C := RX7) (T := TX7) (N := 2) hx hb hts (fun _ h => List.mem_cons_of_mem _ (List.mem_append_right _ h)) hown hK hP 0 rfl rfl 1 kc_l_1_2 (hts (.fieldLink RX7 9 "NotEnded$Shelf" "size" "I") (List.mem_cons_of_mem _ (List.mem_append_left _ (List.mem_of_getElem? (i := 0) rfl)))) (fun _ h9 => h9) rfl dX7_isFull_1 ?_
  refine lv_aload_n hx hb dX7_isFull_4 rfl (lv_at hl 0 rfl) ?_
  refine va_get (D := (dC, dI)) (ci := 7) (v := .ref rS) (C := RX7) (T := TX7) (N := 2) hx hb hts (fun _ h => List.mem_cons_of_mem _ (List.mem_append_right _ h)) hown hK hP 0 rfl rfl 0 kc_l_0_2 (hts (.fieldLink RX7 17 "NotEnded$Shelf" "rules" "[LNotEnded$Rule;") (List.mem_cons_of_mem _ (List.mem_append_left _ (List.mem_of_getElem? (i := 1) rfl)))) (fun _ h9 => h9) rfl dX7_isFull_5 ?_
  refine va_alen hx hb hK hP 1 0 rfl rfl (v := nI (nH)) rfl dX7_isFull_8 ?_
  refine lv_icmp_lt (tgt := 16) hx hb dX7_isFull_9 kc_t_9_7 (fun c_1 => ?_) (fun c_1 => ?_)
  · have bd_3 : kh < 2147483648 := by omega
    have bd_4 : nH < 2147483648 := by omega
    have hn_2 := klt (a := kh) (b := nH) bd_3 bd_4 c_1
    refine lv_iconst (v := 0) hx hb dX7_isFull_16 kc_i_0 ?_
    rw [hQ]
    exact W.zret (v := 0) hx hb hr rfl (fun t ht hW => ⟨0, rfl, (by split <;> first | rfl | omega), ht⟩) (fun _ h => nomatch h) dX7_isFull_17
  · have bd_6 : kh < 2147483648 := by omega
    have bd_7 : nH < 2147483648 := by omega
    have hn_5 := knlt (a := kh) (b := nH) bd_6 bd_7 c_1
    refine lv_iconst (v := 1) hx hb dX7_isFull_12 kc_i_1 ?_
    refine lv_goto (tgt := 17) hx hb dX7_isFull_13 kc_t_13_4 ?_
    rw [hQ]
    exact W.zret (v := 1) hx hb hr rfl (fun t ht hW => ⟨1, rfl, (by split <;> first | rfl | omega), ht⟩) (fun _ h => nomatch h) dX7_isFull_17

theorem dX7_at_0 : decode cX7_at 0 = .ok (.iload_n 1, 1) := kDs0 kf_27 (by decide +kernel)
theorem dX7_at_1 : decode cX7_at 1 = .ok (.ifCond .lt 29, 3) := kDs4 kf_155 (by decide +kernel)
theorem dX7_at_30 : decode cX7_at 30 = .ok (.aconst_null, 1) := kDs0 kf_1 (by decide +kernel)
theorem dX7_at_31 : decode cX7_at 31 = .ok (.areturn, 1) := kDs0 kf_176 (by decide +kernel)
theorem dX7_at_4 : decode cX7_at 4 = .ok (.iload_n 1, 1) := kDs0 kf_27 (by decide +kernel)
theorem dX7_at_5 : decode cX7_at 5 = .ok (.aload_n 0, 1) := kDs0 kf_42 (by decide +kernel)
theorem dX7_at_6 : decode cX7_at 6 = .ok (.getfield 9, 3) := kDs2 kf_180 (by decide +kernel)
theorem dX7_at_9 : decode cX7_at 9 = .ok (.if_icmp .ge 21, 3) := kDs4 kf_162 (by decide +kernel)
theorem dX7_at_12 : decode cX7_at 12 = .ok (.iload_n 1, 1) := kDs0 kf_27 (by decide +kernel)
theorem dX7_at_13 : decode cX7_at 13 = .ok (.aload_n 0, 1) := kDs0 kf_42 (by decide +kernel)
theorem dX7_at_14 : decode cX7_at 14 = .ok (.getfield 17, 3) := kDs2 kf_180 (by decide +kernel)
theorem dX7_at_17 : decode cX7_at 17 = .ok (.arraylength, 1) := kDs0 kf_190 (by decide +kernel)
theorem dX7_at_18 : decode cX7_at 18 = .ok (.if_icmp .ge 12, 3) := kDs4 kf_162 (by decide +kernel)
theorem dX7_at_21 : decode cX7_at 21 = .ok (.aload_n 0, 1) := kDs0 kf_42 (by decide +kernel)
theorem dX7_at_22 : decode cX7_at 22 = .ok (.getfield 17, 3) := kDs2 kf_180 (by decide +kernel)
theorem dX7_at_25 : decode cX7_at 25 = .ok (.iload_n 1, 1) := kDs0 kf_27 (by decide +kernel)
theorem dX7_at_26 : decode cX7_at 26 = .ok (.aaload, 1) := kDs0 kf_50 (by decide +kernel)
theorem dX7_at_27 : decode cX7_at 27 = .ok (.goto 4, 3) := kDs4 kf_167 (by decide +kernel)
def w_s_at7 : List Cond := .code yX7_at cX7_at 2 (some (.object "NotEnded$Rule")) :: ([.fieldLink RX7 9 "NotEnded$Shelf" "size" "I", .fieldLink RX7 17 "NotEnded$Shelf" "rules" "[LNotEnded$Rule;"] ++ (wsX70))
theorem gw_s_at7 : (w_s_at7).all goodWord = true := kGc rfl (kGa (by decide +kernel) gw_wsX70)
theorem hd_X7_at : yX7_at.cls ≠ "java/lang/invoke/MethodHandle" ∧ yX7_at.cls ≠ "java/lang/invoke/VarHandle" ∧ (parseMethodDescriptor yX7_at.desc).map (fun d => d.parameters.length) = some 1 := by decide +kernel
set_option maxHeartbeats 4000000 in
set_option maxRecDepth 100000 in
theorem s_at7 (l : Launch) (dC : Nat → ClassId) (dI : Nat → Nat → Nat) (jS : Nat) (rS : Nat) (cH : ClassId) (gH : Nat → Option Nat) (kh : Nat) (nH : Nat) (hnH : nH ≤ 8) (hkh : kh ≤ nH) (p0 : Int32) : Met l yX7_at w_s_at7 ({ frames := 1, cells := 0, slots := 0, locals := 60 }) (kR dC dI [.ref jS, .int p0] [(jS, .inr (7, [.ref rS, .int (nI (kh))])), (rS, .inl (cH, nH, .inr (.inr (.inr (.inr gH)))))] [(cH, .object RX6)] kT) (va_Sq (fun r : Option Nat => (r = none ∨ ∃ j : Nat, j < kh ∧ r = gH j))) 0 0 (fun _ => False) := by
  refine Met.ofW (cc := cX7_at) (maxL := 2) (ret := (some (.object "NotEnded$Rule"))) (by decide) rfl ?_
  intro p e s m args below meth c s₁ B hml hv
  obtain ⟨rfl, hP, hK, hX⟩ := hv
  have hx := B.exec
  have hb := B.bytes
  have hr := B.returns
  have hts := atoms_spec (ws := w_s_at7) B.pre
  have hown : s.vm.findClass RX7 = some m.cls := findClass_of_methodNamed B.named
  have hlocks := B.notSynchronized
  have hP : va_P (dC, dI) vwCl [(jS, .inr (7, [.ref rS, .int (nI (kh))])), (rS, .inl (cH, nH, .inr (.inr (.inr (.inr gH)))))] s.heap := hP
  have hl := lv_entry ([.ref jS, .int p0]) (n := 2) (Nat.le_of_ble_eq_true rfl)
  rw [lg_entry_eq]
  generalize (lg_sl ([.ref jS, .int p0]) ++ List.replicate (2 - (lg_sl ([.ref jS, .int p0])).length) Slot.unset).toArray = ls at hl ⊢
  have hl : lv_has ls 2 [(0, .ref jS), (1, .int p0)] := hl
  refine kQ (fun Q hQ => ?_)
  refine lv_iload_n hx hb dX7_at_0 rfl (lv_at hl 1 rfl) ?_
  refine lv_if_lt (tgt := 30) hx hb dX7_at_1 kc_t_1_29 (fun c_1 => ?_) (fun c_1 => ?_)
  · refine lv_null hx hb dX7_at_30 ?_
    rw [hQ]
    exact W.aret hx hb hr (Or.inl ⟨_, rfl⟩) (Or.inl rfl) (fun t ht hW => ⟨none, rfl, (Or.inl rfl), ht⟩) (fun _ h => nomatch h) dX7_at_31
  · obtain ⟨j_2, hj_2, ej_2⟩ := nI_of c_1
    subst ej_2
    refine lv_iload_n hx hb dX7_at_4 rfl (lv_at hl 1 rfl) ?_
    refine lv_aload_n hx hb dX7_at_5 rfl (lv_at hl 0 rfl) ?_
    refine va_get (D := (dC, dI)) (ci := 7) (v := .int (nI (kh))) (C := RX7) (T := TX7) (N := 2) hx hb hts (fun _ h => List.mem_cons_of_mem _ (List.mem_append_right _ h)) hown hK hP 0 rfl rfl 1 kc_l_1_2 (hts (.fieldLink RX7 9 "NotEnded$Shelf" "size" "I") (List.mem_cons_of_mem _ (List.mem_append_left _ (List.mem_of_getElem? (i := 0) rfl)))) (fun _ h9 => h9) rfl dX7_at_6 ?_
    refine lv_icmp_ge (tgt := 30) hx hb dX7_at_9 kc_t_9_21 (fun c_3 => ?_) (fun c_3 => ?_)
    · have bd_5 : kh < 2147483648 := by omega
      have bd_6 : j_2 < 2147483648 := by omega
      have hn_4 := kle (a := kh) (b := j_2) bd_5 bd_6 c_3
      refine lv_null hx hb dX7_at_30 ?_
      rw [hQ]
      exact W.aret hx hb hr (Or.inl ⟨_, rfl⟩) (Or.inl rfl) (fun t ht hW => ⟨none, rfl, (Or.inl rfl), ht⟩) (fun _ h => nomatch h) dX7_at_31
    · have bd_8 : kh < 2147483648 := by omega
      have bd_9 : j_2 < 2147483648 := by omega
      have hn_7 := knle (a := kh) (b := j_2) bd_8 bd_9 c_3
      refine lv_iload_n hx hb dX7_at_12 rfl (lv_at hl 1 rfl) ?_
      refine lv_aload_n hx hb dX7_at_13 rfl (lv_at hl 0 rfl) ?_
      refine va_get (D := (dC, dI)) (ci := 7) (v := .ref rS) (C := RX7) (T := TX7) (N := 2) hx hb hts (fun _ h => List.mem_cons_of_mem _ (List.mem_append_right _ h)) hown hK hP 0 rfl rfl 0 kc_l_0_2 (hts (.fieldLink RX7 17 "NotEnded$Shelf" "rules" "[LNotEnded$Rule;") (List.mem_cons_of_mem _ (List.mem_append_left _ (List.mem_of_getElem? (i := 1) rfl)))) (fun _ h9 => h9) rfl dX7_at_14 ?_
      refine va_alen hx hb hK hP 1 0 rfl rfl (v := nI (nH)) rfl dX7_at_17 ?_
      refine lv_icmp_ge (tgt := 30) hx hb dX7_at_18 kc_t_18_12 (fun c_10 => ?_) (fun c_10 => ?_)
      · have bd_12 : nH < 2147483648 := by omega
        have hn_11 := kle (a := nH) (b := j_2) bd_12 bd_9 c_10
        refine lv_null hx hb dX7_at_30 ?_
        rw [hQ]
        exact W.aret hx hb hr (Or.inl ⟨_, rfl⟩) (Or.inl rfl) (fun t ht hW => ⟨none, rfl, (Or.inl rfl), ht⟩) (fun _ h => nomatch h) dX7_at_31
      · have bd_14 : nH < 2147483648 := by omega
        have hn_13 := knle (a := nH) (b := j_2) bd_14 bd_9 c_10
        refine lv_aload_n hx hb dX7_at_21 rfl (lv_at hl 0 rfl) ?_
        refine va_get (D := (dC, dI)) (ci := 7) (v := .ref rS) (C := RX7) (T := TX7) (N := 2) hx hb hts (fun _ h => List.mem_cons_of_mem _ (List.mem_append_right _ h)) hown hK hP 0 rfl rfl 0 kc_l_0_2 (hts (.fieldLink RX7 17 "NotEnded$Shelf" "rules" "[LNotEnded$Rule;") (List.mem_cons_of_mem _ (List.mem_append_left _ (List.mem_of_getElem? (i := 1) rfl)))) (fun _ h9 => h9) rfl dX7_at_22 ?_
        refine lv_iload_n hx hb dX7_at_25 rfl (lv_at hl 1 rfl) ?_
        have bd_15 : j_2 < nH := by omega
        refine va_aldq hx hb hK hP 1 0 rfl rfl (vp_in_nI (n := j_2) (N := nH) bd_15 bd_14) dX7_at_26 ?_
        obtain ⟨x_16, ex_16⟩ : ∃ z9 : Option Nat, z9 = gH (Int32.toNatClampNeg (nI (j_2))) := ⟨_, rfl⟩
        rw [← ex_16]
        refine lv_goto (tgt := 31) hx hb dX7_at_27 kc_t_27_4 ?_
        rw [hQ]
        exact W.aret hx hb hr (Or.inl ⟨_, rfl⟩) (kRfv x_16) (fun t ht hW => ⟨x_16, rfl, (Or.inr ⟨j_2, by omega, by rw [ex_16, nI_clamp (by omega)]⟩), ht⟩) (fun _ h => nomatch h) dX7_at_31

def w_s_at7n : List Cond := .code yX7_at cX7_at 2 (some (.object "NotEnded$Rule")) :: ([.fieldLink RX7 9 "NotEnded$Shelf" "size" "I", .fieldLink RX7 17 "NotEnded$Shelf" "rules" "[LNotEnded$Rule;"] ++ (wsX70))
theorem gw_s_at7n : (w_s_at7n).all goodWord = true := kGc rfl (kGa (by decide +kernel) gw_wsX70)
set_option maxHeartbeats 4000000 in
set_option maxRecDepth 100000 in
theorem s_at7n (l : Launch) (dC : Nat → ClassId) (dI : Nat → Nat → Nat) (jS : Nat) (rS : Nat) (cH : ClassId) (gH : Nat → Option Nat) (kh : Nat) (nH : Nat) (hnH : nH ≤ 8) (hkh : kh ≤ nH) (pj : Nat) (hpj : pj < kh) : Met l yX7_at w_s_at7n ({ frames := 1, cells := 0, slots := 0, locals := 60 }) (kR dC dI [.ref jS, .int (nI (pj))] [(jS, .inr (7, [.ref rS, .int (nI (kh))])), (rS, .inl (cH, nH, .inr (.inr (.inr (.inr gH)))))] [(cH, .object RX6)] kT) (va_Sq (fun r : Option Nat => r = gH pj)) 0 0 (fun _ => False) := by
  refine Met.ofW (cc := cX7_at) (maxL := 2) (ret := (some (.object "NotEnded$Rule"))) (by decide) rfl ?_
  intro p e s m args below meth c s₁ B hml hv
  obtain ⟨rfl, hP, hK, hX⟩ := hv
  have hx := B.exec
  have hb := B.bytes
  have hr := B.returns
  have hts := atoms_spec (ws := w_s_at7n) B.pre
  have hown : s.vm.findClass RX7 = some m.cls := findClass_of_methodNamed B.named
  have hlocks := B.notSynchronized
  have hP : va_P (dC, dI) vwCl [(jS, .inr (7, [.ref rS, .int (nI (kh))])), (rS, .inl (cH, nH, .inr (.inr (.inr (.inr gH)))))] s.heap := hP
  have hl := lv_entry ([.ref jS, .int (nI (pj))]) (n := 2) (Nat.le_of_ble_eq_true rfl)
  rw [lg_entry_eq]
  generalize (lg_sl ([.ref jS, .int (nI (pj))]) ++ List.replicate (2 - (lg_sl ([.ref jS, .int (nI (pj))])).length) Slot.unset).toArray = ls at hl ⊢
  have hl : lv_has ls 2 [(0, .ref jS), (1, .int (nI (pj)))] := hl
  refine kQ (fun Q hQ => ?_)
  refine lv_iload_n hx hb dX7_at_0 rfl (lv_at hl 1 rfl) ?_
  have bd_1 : pj < 2147483648 := by omega
  refine lv_if_lt (tgt := 30) hx hb dX7_at_1 kc_t_1_29 (fun c_2 => absurd c_2 (nI_pos (n := pj) bd_1)) (fun c_2 => ?_)
  refine lv_iload_n hx hb dX7_at_4 rfl (lv_at hl 1 rfl) ?_
  refine lv_aload_n hx hb dX7_at_5 rfl (lv_at hl 0 rfl) ?_
  refine va_get (D := (dC, dI)) (ci := 7) (v := .int (nI (kh))) (C := RX7) (T := TX7) (N := 2) hx hb hts (fun _ h => List.mem_cons_of_mem _ (List.mem_append_right _ h)) hown hK hP 0 rfl rfl 1 kc_l_1_2 (hts (.fieldLink RX7 9 "NotEnded$Shelf" "size" "I") (List.mem_cons_of_mem _ (List.mem_append_left _ (List.mem_of_getElem? (i := 0) rfl)))) (fun _ h9 => h9) rfl dX7_at_6 ?_
  refine lv_icmp_ge (tgt := 30) hx hb dX7_at_9 kc_t_9_21 (fun c_3 => absurd c_3 (nI_ge (a := pj) (b := kh) (by omega) (by omega))) (fun c_3 => ?_)
  refine lv_iload_n hx hb dX7_at_12 rfl (lv_at hl 1 rfl) ?_
  refine lv_aload_n hx hb dX7_at_13 rfl (lv_at hl 0 rfl) ?_
  refine va_get (D := (dC, dI)) (ci := 7) (v := .ref rS) (C := RX7) (T := TX7) (N := 2) hx hb hts (fun _ h => List.mem_cons_of_mem _ (List.mem_append_right _ h)) hown hK hP 0 rfl rfl 0 kc_l_0_2 (hts (.fieldLink RX7 17 "NotEnded$Shelf" "rules" "[LNotEnded$Rule;") (List.mem_cons_of_mem _ (List.mem_append_left _ (List.mem_of_getElem? (i := 1) rfl)))) (fun _ h9 => h9) rfl dX7_at_14 ?_
  refine va_alen hx hb hK hP 1 0 rfl rfl (v := nI (nH)) rfl dX7_at_17 ?_
  refine lv_icmp_ge (tgt := 30) hx hb dX7_at_18 kc_t_18_12 (fun c_4 => absurd c_4 (nI_ge (a := pj) (b := nH) (by omega) (by omega))) (fun c_4 => ?_)
  refine lv_aload_n hx hb dX7_at_21 rfl (lv_at hl 0 rfl) ?_
  refine va_get (D := (dC, dI)) (ci := 7) (v := .ref rS) (C := RX7) (T := TX7) (N := 2) hx hb hts (fun _ h => List.mem_cons_of_mem _ (List.mem_append_right _ h)) hown hK hP 0 rfl rfl 0 kc_l_0_2 (hts (.fieldLink RX7 17 "NotEnded$Shelf" "rules" "[LNotEnded$Rule;") (List.mem_cons_of_mem _ (List.mem_append_left _ (List.mem_of_getElem? (i := 1) rfl)))) (fun _ h9 => h9) rfl dX7_at_22 ?_
  refine lv_iload_n hx hb dX7_at_25 rfl (lv_at hl 1 rfl) ?_
  have bd_5 : pj < nH := by omega
  have bd_6 : nH < 2147483648 := by omega
  refine va_aldq hx hb hK hP 1 0 rfl rfl (vp_in_nI (n := pj) (N := nH) bd_5 bd_6) dX7_at_26 ?_
  obtain ⟨x_7, ex_7⟩ : ∃ z9 : Option Nat, z9 = gH (Int32.toNatClampNeg (nI (pj))) := ⟨_, rfl⟩
  rw [← ex_7]
  refine lv_goto (tgt := 31) hx hb dX7_at_27 kc_t_27_4 ?_
  rw [hQ]
  exact W.aret hx hb hr (Or.inl ⟨_, rfl⟩) (kRfv x_7) (fun t ht hW => ⟨x_7, rfl, (by rw [ex_7, nI_clamp (by omega)]), ht⟩) (fun _ h => nomatch h) dX7_at_31

theorem dX7_put_0 : decode cX7_put 0 = .ok (.aload_n 0, 1) := kDs0 kf_42 (by decide +kernel)
theorem dX7_put_1 : decode cX7_put 1 = .ok (.invokevirtual 21, 3) := kDs2 kf_182 (by decide +kernel)
theorem dX7_put_4 : decode cX7_put 4 = .ok (.ifCond .eq 5, 3) := kDs4 kf_153 (by decide +kernel)
theorem dX7_put_9 : decode cX7_put 9 = .ok (.aload_n 0, 1) := kDs0 kf_42 (by decide +kernel)
theorem dX7_put_10 : decode cX7_put 10 = .ok (.getfield 17, 3) := kDs2 kf_180 (by decide +kernel)
theorem dX7_put_13 : decode cX7_put 13 = .ok (.aload_n 0, 1) := kDs0 kf_42 (by decide +kernel)
theorem dX7_put_14 : decode cX7_put 14 = .ok (.getfield 9, 3) := kDs2 kf_180 (by decide +kernel)
theorem dX7_put_17 : decode cX7_put 17 = .ok (.aload_n 1, 1) := kDs0 kf_43 (by decide +kernel)
theorem dX7_put_18 : decode cX7_put 18 = .ok (.aastore, 1) := kDs0 kf_83 (by decide +kernel)
theorem dX7_put_19 : decode cX7_put 19 = .ok (.aload_n 0, 1) := kDs0 kf_42 (by decide +kernel)
theorem dX7_put_20 : decode cX7_put 20 = .ok (.dup, 1) := kDs0 kf_89 (by decide +kernel)
theorem dX7_put_21 : decode cX7_put 21 = .ok (.getfield 9, 3) := kDs2 kf_180 (by decide +kernel)
theorem dX7_put_24 : decode cX7_put 24 = .ok (.iconst 1, 1) := kDs0 kf_4 (by decide +kernel)
theorem dX7_put_25 : decode cX7_put 25 = .ok (.iadd, 1) := kDs0 kf_96 (by decide +kernel)
theorem dX7_put_26 : decode cX7_put 26 = .ok (.putfield 9, 3) := kDs2 kf_181 (by decide +kernel)
theorem dX7_put_29 : decode cX7_put 29 = .ok (.aload_n 0, 1) := kDs0 kf_42 (by decide +kernel)
theorem dX7_put_30 : decode cX7_put 30 = .ok (.getfield 9, 3) := kDs2 kf_180 (by decide +kernel)
theorem dX7_put_33 : decode cX7_put 33 = .ok (.iconst 1, 1) := kDs0 kf_4 (by decide +kernel)
theorem dX7_put_34 : decode cX7_put 34 = .ok (.isub, 1) := kDs0 kf_100 (by decide +kernel)
theorem dX7_put_35 : decode cX7_put 35 = .ok (.ireturn, 1) := kDs0 kf_172 (by decide +kernel)
theorem dX7_put_7 : decode cX7_put 7 = .ok (.iconst (-1), 1) := kDs0 kf_2 (by decide +kernel)
theorem dX7_put_8 : decode cX7_put 8 = .ok (.ireturn, 1) := kDs0 kf_172 (by decide +kernel)
theorem hd_X7_put : yX7_put.cls ≠ "java/lang/invoke/MethodHandle" ∧ yX7_put.cls ≠ "java/lang/invoke/VarHandle" ∧ (parseMethodDescriptor yX7_put.desc).map (fun d => d.parameters.length) = some 1 := by decide +kernel
def w_s_at7y : List Cond := .code yX7_at cX7_at 2 (some (.object "NotEnded$Rule")) :: ([.fieldLink RX7 9 "NotEnded$Shelf" "size" "I", .fieldLink RX7 17 "NotEnded$Shelf" "rules" "[LNotEnded$Rule;"] ++ (wsX70))
theorem gw_s_at7y : (w_s_at7y).all goodWord = true := kGc rfl (kGa (by decide +kernel) gw_wsX70)
set_option maxHeartbeats 4000000 in
set_option maxRecDepth 100000 in
theorem s_at7y (l : Launch) (dC : Nat → ClassId) (dI : Nat → Nat → Nat) (jS : Nat) (rS : Nat) (cH : ClassId) (gH : Nat → Option Nat) (kh : Nat) (nH : Nat) (hnH : nH ≤ 8) (hkh : kh ≤ nH) (p0 : Int32) : Met l yX7_at w_s_at7y ({ frames := 1, cells := 0, slots := 0, locals := 60 }) (kR dC dI [.ref jS, .int p0] [(jS, .inr (7, [.ref rS, .int (nI (kh))])), (rS, .inl (cH, nH, .inr (.inr (.inr (.inr gH)))))] [(cH, .object RX6)] kT) (va_Sq (fun r : Option Nat => ((r = none ∧ kPn p0 kh = 0) ∨ (kPn p0 kh = 1 ∧ ∃ j : Nat, j < kh ∧ p0 = nI j ∧ r = gH j)))) 0 0 (fun _ => False) := by
  refine Met.ofW (cc := cX7_at) (maxL := 2) (ret := (some (.object "NotEnded$Rule"))) (by decide) rfl ?_
  intro p e s m args below meth c s₁ B hml hv
  obtain ⟨rfl, hP, hK, hX⟩ := hv
  have hx := B.exec
  have hb := B.bytes
  have hr := B.returns
  have hts := atoms_spec (ws := w_s_at7y) B.pre
  have hown : s.vm.findClass RX7 = some m.cls := findClass_of_methodNamed B.named
  have hlocks := B.notSynchronized
  have hP : va_P (dC, dI) vwCl [(jS, .inr (7, [.ref rS, .int (nI (kh))])), (rS, .inl (cH, nH, .inr (.inr (.inr (.inr gH)))))] s.heap := hP
  have hl := lv_entry ([.ref jS, .int p0]) (n := 2) (Nat.le_of_ble_eq_true rfl)
  rw [lg_entry_eq]
  generalize (lg_sl ([.ref jS, .int p0]) ++ List.replicate (2 - (lg_sl ([.ref jS, .int p0])).length) Slot.unset).toArray = ls at hl ⊢
  have hl : lv_has ls 2 [(0, .ref jS), (1, .int p0)] := hl
  refine kQ (fun Q hQ => ?_)
  refine lv_iload_n hx hb dX7_at_0 rfl (lv_at hl 1 rfl) ?_
  refine lv_if_lt (tgt := 30) hx hb dX7_at_1 kc_t_1_29 (fun c_1 => ?_) (fun c_1 => ?_)
  · refine lv_null hx hb dX7_at_30 ?_
    rw [hQ]
    exact W.aret hx hb hr (Or.inl ⟨_, rfl⟩) (Or.inl rfl) (fun t ht hW => ⟨none, rfl, (Or.inl ⟨rfl, by first | (unfold kPn; rw [if_pos c_1]; done) | (rw [kPn_nI (by omega) (by omega), if_neg (by omega)]; done) | (exfalso; omega)⟩), ht⟩) (fun _ h => nomatch h) dX7_at_31
  · obtain ⟨j_2, hj_2, ej_2⟩ := nI_of c_1
    subst ej_2
    refine lv_iload_n hx hb dX7_at_4 rfl (lv_at hl 1 rfl) ?_
    refine lv_aload_n hx hb dX7_at_5 rfl (lv_at hl 0 rfl) ?_
    refine va_get (D := (dC, dI)) (ci := 7) (v := .int (nI (kh))) (C := RX7) (T := TX7) (N := 2) hx hb hts (fun _ h => List.mem_cons_of_mem _ (List.mem_append_right _ h)) hown hK hP 0 rfl rfl 1 kc_l_1_2 (hts (.fieldLink RX7 9 "NotEnded$Shelf" "size" "I") (List.mem_cons_of_mem _ (List.mem_append_left _ (List.mem_of_getElem? (i := 0) rfl)))) (fun _ h9 => h9) rfl dX7_at_6 ?_
    refine lv_icmp_ge (tgt := 30) hx hb dX7_at_9 kc_t_9_21 (fun c_3 => ?_) (fun c_3 => ?_)
    · have bd_5 : kh < 2147483648 := by omega
      have bd_6 : j_2 < 2147483648 := by omega
      have hn_4 := kle (a := kh) (b := j_2) bd_5 bd_6 c_3
      refine lv_null hx hb dX7_at_30 ?_
      rw [hQ]
      exact W.aret hx hb hr (Or.inl ⟨_, rfl⟩) (Or.inl rfl) (fun t ht hW => ⟨none, rfl, (Or.inl ⟨rfl, by first | (unfold kPn; rw [if_pos c_1]; done) | (rw [kPn_nI (by omega) (by omega), if_neg (by omega)]; done) | (exfalso; omega)⟩), ht⟩) (fun _ h => nomatch h) dX7_at_31
    · have bd_8 : kh < 2147483648 := by omega
      have bd_9 : j_2 < 2147483648 := by omega
      have hn_7 := knle (a := kh) (b := j_2) bd_8 bd_9 c_3
      refine lv_iload_n hx hb dX7_at_12 rfl (lv_at hl 1 rfl) ?_
      refine lv_aload_n hx hb dX7_at_13 rfl (lv_at hl 0 rfl) ?_
      refine va_get (D := (dC, dI)) (ci := 7) (v := .ref rS) (C := RX7) (T := TX7) (N := 2) hx hb hts (fun _ h => List.mem_cons_of_mem _ (List.mem_append_right _ h)) hown hK hP 0 rfl rfl 0 kc_l_0_2 (hts (.fieldLink RX7 17 "NotEnded$Shelf" "rules" "[LNotEnded$Rule;") (List.mem_cons_of_mem _ (List.mem_append_left _ (List.mem_of_getElem? (i := 1) rfl)))) (fun _ h9 => h9) rfl dX7_at_14 ?_
      refine va_alen hx hb hK hP 1 0 rfl rfl (v := nI (nH)) rfl dX7_at_17 ?_
      refine lv_icmp_ge (tgt := 30) hx hb dX7_at_18 kc_t_18_12 (fun c_10 => ?_) (fun c_10 => ?_)
      · have bd_12 : nH < 2147483648 := by omega
        have hn_11 := kle (a := nH) (b := j_2) bd_12 bd_9 c_10
        refine lv_null hx hb dX7_at_30 ?_
        rw [hQ]
        exact W.aret hx hb hr (Or.inl ⟨_, rfl⟩) (Or.inl rfl) (fun t ht hW => ⟨none, rfl, (Or.inl ⟨rfl, by first | (unfold kPn; rw [if_pos c_1]; done) | (rw [kPn_nI (by omega) (by omega), if_neg (by omega)]; done) | (exfalso; omega)⟩), ht⟩) (fun _ h => nomatch h) dX7_at_31
      · have bd_14 : nH < 2147483648 := by omega
        have hn_13 := knle (a := nH) (b := j_2) bd_14 bd_9 c_10
        refine lv_aload_n hx hb dX7_at_21 rfl (lv_at hl 0 rfl) ?_
        refine va_get (D := (dC, dI)) (ci := 7) (v := .ref rS) (C := RX7) (T := TX7) (N := 2) hx hb hts (fun _ h => List.mem_cons_of_mem _ (List.mem_append_right _ h)) hown hK hP 0 rfl rfl 0 kc_l_0_2 (hts (.fieldLink RX7 17 "NotEnded$Shelf" "rules" "[LNotEnded$Rule;") (List.mem_cons_of_mem _ (List.mem_append_left _ (List.mem_of_getElem? (i := 1) rfl)))) (fun _ h9 => h9) rfl dX7_at_22 ?_
        refine lv_iload_n hx hb dX7_at_25 rfl (lv_at hl 1 rfl) ?_
        have bd_15 : j_2 < nH := by omega
        refine va_aldq hx hb hK hP 1 0 rfl rfl (vp_in_nI (n := j_2) (N := nH) bd_15 bd_14) dX7_at_26 ?_
        obtain ⟨x_16, ex_16⟩ : ∃ z9 : Option Nat, z9 = gH (Int32.toNatClampNeg (nI (j_2))) := ⟨_, rfl⟩
        rw [← ex_16]
        refine lv_goto (tgt := 31) hx hb dX7_at_27 kc_t_27_4 ?_
        rw [hQ]
        exact W.aret hx hb hr (Or.inl ⟨_, rfl⟩) (kRfv x_16) (fun t ht hW => ⟨x_16, rfl, (Or.inr ⟨by rw [kPn_nI (by omega) (by omega), if_pos (by omega)], j_2, by omega, rfl, by rw [ex_16, nI_clamp (by omega)]⟩), ht⟩) (fun _ h => nomatch h) dX7_at_31

def kBarA (p : Int32) (ku : Nat) (y : Nat → List kTr) : Int32 := if kPn p ku = 0 then -1 else kPop (nI (kBar (y (Int32.toNatClampNeg p))))

def w_s_has2x : List Cond := .code yX2_has cX2_has 2 (some .boolean) :: ([.fieldLink RX2 31 "NotEnded$Folk" "size" "I"] ++ (wsX20))
theorem gw_s_has2x : (w_s_has2x).all goodWord = true := kGc rfl (kGa (by decide +kernel) gw_wsX20)
set_option maxHeartbeats 4000000 in
set_option maxRecDepth 100000 in
theorem s_has2x (l : Launch) (dC : Nat → ClassId) (dI : Nat → Nat → Nat) (hF : Nat) (f0 : Nat) (f1 : Nat) (f2 : Nat) (f3 : Nat) (f4 : Nat) (z0 : ClassId) (z1 : ClassId) (z2 : ClassId) (z3 : ClassId) (z4 : ClassId) (g0 : Nat → Int32) (g1 : Nat → Int32) (g2 : Nat → Int32) (g3 : Nat → Int32) (g4 : Nat → Int32) (sn : Int32) (ks : Nat) (kw : Nat) (hks : ks ≤ 10) (hkw : kw ≤ 4) (p0 : Int32) : Met l yX2_has w_s_has2x ({ frames := 1, cells := 0, slots := 0, locals := 60 }) (kR dC dI [.ref hF, .int p0] [(hF, .inr (2, [.ref f0, .ref f1, .ref f2, .ref f3, .ref f4, .int sn, .int (nI (ks)), .int (nI (kw))])), (f0, .inl (z0, 10, .inl g0)), (f1, .inl (z1, 10, .inl g1)), (f2, .inl (z2, 10, .inl g2)), (f3, .inl (z3, 10, .inl g3)), (f4, .inl (z4, 4, .inl g4))] [(z0, .int), (z1, .int), (z2, .int), (z3, .int), (z4, .int)] kT) (vp_Si (fun r : Int32 => ((¬ r = 0 → ∃ j : Nat, j < ks ∧ p0 = nI j) ∧ r = kPn p0 ks))) 0 0 (fun _ => False) := by
  refine Met.ofW (cc := cX2_has) (maxL := 2) (ret := (some .boolean)) (by decide) rfl ?_
  intro p e s m args below meth c s₁ B hml hv
  obtain ⟨rfl, hP, hK, hX⟩ := hv
  have hx := B.exec
  have hb := B.bytes
  have hr := B.returns
  have hts := atoms_spec (ws := w_s_has2x) B.pre
  have hown : s.vm.findClass RX2 = some m.cls := findClass_of_methodNamed B.named
  have hlocks := B.notSynchronized
  have hP : va_P (dC, dI) vwCl [(hF, .inr (2, [.ref f0, .ref f1, .ref f2, .ref f3, .ref f4, .int sn, .int (nI (ks)), .int (nI (kw))])), (f0, .inl (z0, 10, .inl g0)), (f1, .inl (z1, 10, .inl g1)), (f2, .inl (z2, 10, .inl g2)), (f3, .inl (z3, 10, .inl g3)), (f4, .inl (z4, 4, .inl g4))] s.heap := hP
  have hl := lv_entry ([.ref hF, .int p0]) (n := 2) (Nat.le_of_ble_eq_true rfl)
  rw [lg_entry_eq]
  generalize (lg_sl ([.ref hF, .int p0]) ++ List.replicate (2 - (lg_sl ([.ref hF, .int p0])).length) Slot.unset).toArray = ls at hl ⊢
  have hl : lv_has ls 2 [(0, .ref hF), (1, .int p0)] := hl
  refine kQ (fun Q hQ => ?_)
  refine lv_iload_n hx hb dX2_has_0 rfl (lv_at hl 1 rfl) ?_
  refine lv_if_lt (tgt := 22) hx hb dX2_has_1 kc_t_1_21 (fun c_1 => ?_) (fun c_1 => ?_)
  · refine lv_iconst (v := 0) hx hb dX2_has_22 kc_i_0 ?_
    rw [hQ]
    exact W.zret (v := 0) hx hb hr rfl (fun t ht hW => ⟨0, rfl, ⟨(fun z => absurd rfl z), (by first | (rw [kPn_nI (by omega) (by omega)]; first | exact (if_pos (by omega)).symm | exact (if_neg (by omega)).symm | (exfalso; omega)) | (unfold kPn; rw [if_pos c_1]))⟩, ht⟩) (fun _ h => nomatch h) dX2_has_23
  · obtain ⟨j_2, hj_2, ej_2⟩ := nI_of c_1
    subst ej_2
    refine lv_iload_n hx hb dX2_has_4 rfl (lv_at hl 1 rfl) ?_
    refine lv_aload_n hx hb dX2_has_5 rfl (lv_at hl 0 rfl) ?_
    refine va_get (D := (dC, dI)) (ci := 2) (v := .int (nI (ks))) (C := RX2) (T := TX2) (N := 8) hx hb hts (fun _ h => List.mem_cons_of_mem _ (List.mem_append_right _ h)) hown hK hP 0 rfl rfl 6 kc_l_6_8 (hts (.fieldLink RX2 31 "NotEnded$Folk" "size" "I") (List.mem_cons_of_mem _ (List.mem_append_left _ (List.mem_of_getElem? (i := 0) rfl)))) (fun _ h9 => h9) rfl dX2_has_6 ?_
    refine lv_icmp_ge (tgt := 22) hx hb dX2_has_9 kc_t_9_13 (fun c_3 => ?_) (fun c_3 => ?_)
    · have bd_5 : ks < 2147483648 := by omega
      have bd_6 : j_2 < 2147483648 := by omega
      have hn_4 := kle (a := ks) (b := j_2) bd_5 bd_6 c_3
      refine lv_iconst (v := 0) hx hb dX2_has_22 kc_i_0 ?_
      rw [hQ]
      exact W.zret (v := 0) hx hb hr rfl (fun t ht hW => ⟨0, rfl, ⟨(fun z => absurd rfl z), (by first | (rw [kPn_nI (by omega) (by omega)]; first | exact (if_pos (by omega)).symm | exact (if_neg (by omega)).symm | (exfalso; omega)) | (unfold kPn; rw [if_pos c_1]))⟩, ht⟩) (fun _ h => nomatch h) dX2_has_23
    · have bd_8 : ks < 2147483648 := by omega
      have bd_9 : j_2 < 2147483648 := by omega
      have hn_7 := knle (a := ks) (b := j_2) bd_8 bd_9 c_3
      refine lv_iload_n hx hb dX2_has_12 rfl (lv_at hl 1 rfl) ?_
      refine lv_bipush (v := 10) hx hb dX2_has_13 kc_b_10 ?_
      refine lv_icmp_ge (tgt := 22) hx hb dX2_has_15 kc_t_15_7 (fun c_10 => ?_) (fun c_10 => ?_)
      · have hn_11 := kle (a := 10) (b := j_2) kc_31_10 bd_9 c_10
        refine lv_iconst (v := 0) hx hb dX2_has_22 kc_i_0 ?_
        rw [hQ]
        exact W.zret (v := 0) hx hb hr rfl (fun t ht hW => ⟨0, rfl, ⟨(fun z => absurd rfl z), (by first | (rw [kPn_nI (by omega) (by omega)]; first | exact (if_pos (by omega)).symm | exact (if_neg (by omega)).symm | (exfalso; omega)) | (unfold kPn; rw [if_pos c_1]))⟩, ht⟩) (fun _ h => nomatch h) dX2_has_23
      · have hn_12 := knle (a := 10) (b := j_2) kc_31_10 bd_9 c_10
        refine lv_iconst (v := 1) hx hb dX2_has_18 kc_i_1 ?_
        refine lv_goto (tgt := 23) hx hb dX2_has_19 kc_t_19_4 ?_
        rw [hQ]
        exact W.zret (v := 1) hx hb hr rfl (fun t ht hW => ⟨1, rfl, ⟨(fun _ => ⟨_, by omega, rfl⟩), (by first | (rw [kPn_nI (by omega) (by omega)]; first | exact (if_pos (by omega)).symm | exact (if_neg (by omega)).symm | (exfalso; omega)) | (unfold kPn; rw [if_pos c_1]))⟩, ht⟩) (fun _ h => nomatch h) dX2_has_23

def w_s_isHouse9x : List Cond := .code yX9_isHouse cX9_isHouse 1 (some .boolean) :: ([.initialized RX9, .static yX9_isIn, .methodLink RX9 117 yX9_isIn] ++ (w_s_isIn9))
theorem gw_s_isHouse9x : (w_s_isHouse9x).all goodWord = true := kGc rfl (kGa (by decide +kernel) gw_s_isIn9)
set_option maxHeartbeats 4000000 in
set_option maxRecDepth 100000 in
theorem s_isHouse9x (l : Launch) (dC : Nat → ClassId) (dI : Nat → Nat → Nat) (p0 : Int32) : Met l yX9_isHouse w_s_isHouse9x ({ frames := 2, cells := 0, slots := 0, locals := 120 }) (kR dC dI [.int p0] [] [] kT) (vp_Si (fun r : Int32 => r = kIn p0 0 3)) 0 0 (fun _ => False) := by
  refine Met.ofW (cc := cX9_isHouse) (maxL := 1) (ret := (some .boolean)) (by decide) rfl ?_
  intro p e s m args below meth c s₁ B hml hv
  obtain ⟨rfl, hP, hK, hX⟩ := hv
  have hx := B.exec
  have hb := B.bytes
  have hr := B.returns
  have hts := atoms_spec (ws := w_s_isHouse9x) B.pre
  have hown : s.vm.findClass RX9 = some m.cls := findClass_of_methodNamed B.named
  have hlocks := B.notSynchronized
  have hP : va_P (dC, dI) vwCl [] s.heap := hP
  have hl := lv_entry ([.int p0]) (n := 1) (Nat.le_of_ble_eq_true rfl)
  rw [lg_entry_eq]
  generalize (lg_sl ([.int p0]) ++ List.replicate (1 - (lg_sl ([.int p0])).length) Slot.unset).toArray = ls at hl ⊢
  have hl : lv_has ls 1 [(0, .int p0)] := hl
  refine kQ (fun Q hQ => ?_)
  refine lv_iload_n hx hb dX9_isHouse_0 rfl (lv_at hl 0 rfl) ?_
  refine lv_iconst (v := 0) hx hb dX9_isHouse_1 kc_i_0 ?_
  refine lv_iconst (v := 3) hx hb dX9_isHouse_2 kc_i_3 ?_
  have hPc := hP.sb (ws2 := []) [] rfl
  have hKc := hK.sb (tys2 := []) [] rfl
  refine vp_callSi (va_runS (As := [.int p0, .int 0, .int 3]) (rest := []) ⟨hx, hb, hml, hown, hts⟩ (s_isIn9 l dC dI p0 0 3) (va_cwS 3 hts (kG (List.forall_mem_cons.mpr ⟨(List.mem_cons_of_mem _ (List.mem_append_left _ (List.mem_of_getElem? (i := 2) rfl))), (List.forall_mem_cons.mpr ⟨(List.mem_cons_of_mem _ (List.mem_append_left _ (List.mem_of_getElem? (i := 1) rfl))), (List.forall_mem_cons.mpr ⟨(List.mem_cons_of_mem _ (List.mem_append_left _ (List.mem_of_getElem? (i := 0) rfl))), (fun _ h => absurd h List.not_mem_nil)⟩)⟩)⟩) (kGS _ _ _) (fun _ h => List.mem_cons_of_mem _ (List.mem_append_right _ h)) gw_s_isIn9) rfl rfl rfl hd_X9_isIn ⟨(Nat.le_of_ble_eq_true rfl), (Nat.le_of_ble_eq_true rfl)⟩) (kR_S kT_blind kT_give hPc hKc) rfl rfl hl.1 rfl (lv_room (Nat.le_of_ble_eq_true rfl)) dX9_isHouse_3 ⟨(Nat.le_of_ble_eq_true rfl), (Nat.le_of_ble_eq_true rfl)⟩).run (fun r_1 hw => ?_)
  have hw_2 := hw
  rw [hQ]
  exact W.zret (v := r_1) hx hb hr (by rw [hw_2]; exact kIn_nar _ _ _) (fun t ht hW => ⟨r_1, rfl, hw_2, ht⟩) (fun _ h => nomatch h) dX9_isHouse_6

def w_s_addPerson2x : List Cond := .code yX2_addPerson cX2_addPerson 5 (some .int) :: ([.fieldLink RX2 31 "NotEnded$Folk" "size" "I", .fieldLink RX2 9 "NotEnded$Folk" "holds" "[I", .fieldLink RX2 15 "NotEnded$Folk" "putIn" "[I", .fieldLink RX2 18 "NotEnded$Folk" "houses" "[I", .fieldLink RX2 27 "NotEnded$Folk" "sent" "I"] ++ (wsX20))
theorem gw_s_addPerson2x : (w_s_addPerson2x).all goodWord = true := kGc rfl (kGa (by decide +kernel) gw_wsX20)
set_option maxHeartbeats 4000000 in
set_option maxRecDepth 100000 in
theorem s_addPerson2x (l : Launch) (dC : Nat → ClassId) (dI : Nat → Nat → Nat) (hF : Nat) (f0 : Nat) (f1 : Nat) (f2 : Nat) (f3 : Nat) (f4 : Nat) (z0 : ClassId) (z1 : ClassId) (z2 : ClassId) (z3 : ClassId) (z4 : ClassId) (g0 : Nat → Int32) (g1 : Nat → Int32) (g2 : Nat → Int32) (g3 : Nat → Int32) (g4 : Nat → Int32) (ks : Nat) (kw : Nat) (hks : ks ≤ 10) (hkw : kw ≤ 4) (sv : Nat) (hsv : sv < 1024) (p0 : Int32) (p1 : Int32) (p2 : Int32) (p3 : Int32) (sz : Nat) : Met l yX2_addPerson w_s_addPerson2x ({ frames := 1, cells := 0, slots := 0, locals := 60 }) (kW dC dI [.ref hF, .int p0, .int p1, .int p2, .int p3] [(hF, .inr (2, [.ref f0, .ref f1, .ref f2, .ref f3, .ref f4, .int (nI (sv)), .int (nI (ks)), .int (nI (kw))])), (f0, .inl (z0, 10, .inl g0)), (f1, .inl (z1, 10, .inl g1)), (f2, .inl (z2, 10, .inl g2)), (f3, .inl (z3, 10, .inl g3)), (f4, .inl (z4, 4, .inl g4))] [(z0, .int), (z1, .int), (z2, .int), (z3, .int), (z4, .int)] kT sz) (va_Qi (fun (r : Int32) (u : (Nat → Int32) × (Nat → Int32) × (Nat → Int32) × Nat × Nat) => match u with | (n0, n1, n2, sn1, ks1) => (r = (if ks < 10 then nI ks else -1) ∧ ks1 = (if ks < 10 then ks + 1 else ks) ∧ sn1 < 1024 ∧ sn1 = (if ks < 10 then (if p3 = 0 then sv else sv ||| 2 ^ ks) else sv))) (fun (u : (Nat → Int32) × (Nat → Int32) × (Nat → Int32) × Nat × Nat) => match u with | (n0, n1, n2, sn1, ks1) => fun t : State => kB dC dI [(hF, .inr (2, [.ref f0, .ref f1, .ref f2, .ref f3, .ref f4, .int (nI (sn1)), .int (nI (ks1)), .int (nI (kw))])), (f0, .inl (z0, 10, .inl n0)), (f1, .inl (z1, 10, .inl n1)), (f2, .inl (z2, 10, .inl n2)), (f3, .inl (z3, 10, .inl g3)), (f4, .inl (z4, 4, .inl g4))] [(z0, .int), (z1, .int), (z2, .int), (z3, .int), (z4, .int)] (va_A [(hF, .inr (2, [.ref f0, .ref f1, .ref f2, .ref f3, .ref f4, .int (nI (sv)), .int (nI (ks)), .int (nI (kw))])), (f0, .inl (z0, 10, .inl g0)), (f1, .inl (z1, 10, .inl g1)), (f2, .inl (z2, 10, .inl g2)), (f3, .inl (z3, 10, .inl g3)), (f4, .inl (z4, 4, .inl g4))] sz) t) (va_A [(hF, .inr (2, [.ref f0, .ref f1, .ref f2, .ref f3, .ref f4, .int (nI (sv)), .int (nI (ks)), .int (nI (kw))])), (f0, .inl (z0, 10, .inl g0)), (f1, .inl (z1, 10, .inl g1)), (f2, .inl (z2, 10, .inl g2)), (f3, .inl (z3, 10, .inl g3)), (f4, .inl (z4, 4, .inl g4))] sz)) 0 0 (va_A [(hF, .inr (2, [.ref f0, .ref f1, .ref f2, .ref f3, .ref f4, .int (nI (sv)), .int (nI (ks)), .int (nI (kw))])), (f0, .inl (z0, 10, .inl g0)), (f1, .inl (z1, 10, .inl g1)), (f2, .inl (z2, 10, .inl g2)), (f3, .inl (z3, 10, .inl g3)), (f4, .inl (z4, 4, .inl g4))] sz) := by
  refine Met.ofW (cc := cX2_addPerson) (maxL := 5) (ret := (some .int)) (by decide) rfl ?_
  intro p e s m args below meth c s₁ B hml hv
  obtain ⟨rfl, hsz, hP, hK, hD0, hX⟩ := hv
  have hx := B.exec
  have hb := B.bytes
  have hr := B.returns
  have hts := atoms_spec (ws := w_s_addPerson2x) B.pre
  have hown : s.vm.findClass RX2 = some m.cls := findClass_of_methodNamed B.named
  have hlocks := B.notSynchronized
  subst hsz
  have hD := hD0.self (sz := s.heap.size)
  generalize hAe : va_A [(hF, .inr (2, [.ref f0, .ref f1, .ref f2, .ref f3, .ref f4, .int (nI (sv)), .int (nI (ks)), .int (nI (kw))])), (f0, .inl (z0, 10, .inl g0)), (f1, .inl (z1, 10, .inl g1)), (f2, .inl (z2, 10, .inl g2)), (f3, .inl (z3, 10, .inl g3)), (f4, .inl (z4, 4, .inl g4))] s.heap.size = A at hD ⊢
  have hA : ∀ q : Nat, s.heap.size ≤ q → A q := fun q h => by rw [← hAe]; exact Or.inr h
  have hS : va_S A s.heap s.heap [] := va_S.rf
  have hP : va_P (dC, dI) vwCl [(hF, .inr (2, [.ref f0, .ref f1, .ref f2, .ref f3, .ref f4, .int (nI (sv)), .int (nI (ks)), .int (nI (kw))])), (f0, .inl (z0, 10, .inl g0)), (f1, .inl (z1, 10, .inl g1)), (f2, .inl (z2, 10, .inl g2)), (f3, .inl (z3, 10, .inl g3)), (f4, .inl (z4, 4, .inl g4))] s.heap := hP
  have hl := lv_entry ([.ref hF, .int p0, .int p1, .int p2, .int p3]) (n := 5) (Nat.le_of_ble_eq_true rfl)
  rw [lg_entry_eq]
  generalize (lg_sl ([.ref hF, .int p0, .int p1, .int p2, .int p3]) ++ List.replicate (5 - (lg_sl ([.ref hF, .int p0, .int p1, .int p2, .int p3])).length) Slot.unset).toArray = ls at hl ⊢
  have hl : lv_has ls 5 [(0, .ref hF), (1, .int p0), (2, .int p1), (3, .int p2), (4, .int p3)] := hl
  refine kQ (fun Q hQ => ?_)
  refine lv_aload_n hx hb dX2_addPerson_0 rfl (lv_at hl 0 rfl) ?_
  refine va_get (D := (dC, dI)) (ci := 2) (v := .int (nI (ks))) (C := RX2) (T := TX2) (N := 8) hx hb hts (fun _ h => List.mem_cons_of_mem _ (List.mem_append_right _ h)) hown hK hP 0 rfl rfl 6 kc_l_6_8 (hts (.fieldLink RX2 31 "NotEnded$Folk" "size" "I") (List.mem_cons_of_mem _ (List.mem_append_left _ (List.mem_of_getElem? (i := 0) rfl)))) (fun _ h9 => h9) rfl dX2_addPerson_1 ?_
  refine lv_bipush (v := 10) hx hb dX2_addPerson_4 kc_b_10 ?_
  refine lv_icmp_lt (tgt := 11) hx hb dX2_addPerson_6 kc_t_6_5 (fun c_1 => ?_) (fun c_1 => ?_)
  · have bd_3 : ks < 2147483648 := by omega
    have hn_2 := klt (a := ks) (b := 10) bd_3 kc_31_10 c_1
    refine lv_aload_n hx hb dX2_addPerson_11 rfl (lv_at hl 0 rfl) ?_
    refine va_get (D := (dC, dI)) (ci := 2) (v := .ref f0) (C := RX2) (T := TX2) (N := 8) hx hb hts (fun _ h => List.mem_cons_of_mem _ (List.mem_append_right _ h)) hown hK hP 0 rfl rfl 0 kc_l_0_8 (hts (.fieldLink RX2 9 "NotEnded$Folk" "holds" "[I") (List.mem_cons_of_mem _ (List.mem_append_left _ (List.mem_of_getElem? (i := 1) rfl)))) (fun _ h9 => h9) rfl dX2_addPerson_12 ?_
    refine lv_aload_n hx hb dX2_addPerson_15 rfl (lv_at hl 0 rfl) ?_
    refine va_get (D := (dC, dI)) (ci := 2) (v := .int (nI (ks))) (C := RX2) (T := TX2) (N := 8) hx hb hts (fun _ h => List.mem_cons_of_mem _ (List.mem_append_right _ h)) hown hK hP 0 rfl rfl 6 kc_l_6_8 (hts (.fieldLink RX2 31 "NotEnded$Folk" "size" "I") (List.mem_cons_of_mem _ (List.mem_append_left _ (List.mem_of_getElem? (i := 0) rfl)))) (fun _ h9 => h9) rfl dX2_addPerson_16 ?_
    refine lv_iload_n hx hb dX2_addPerson_19 rfl (lv_at hl 1 rfl) ?_
    have bd_5 : ks < 10 := by omega
    refine va_iast hx hb hK hP hD hS 1 0 rfl rfl (vp_in_nI (n := ks) (N := 10) bd_5 kc_31_10) dX2_addPerson_20 (fun H locs hP hD hS => ?_)
    obtain ⟨f_4, ef_4⟩ : ∃ gg9 : Nat → Int32, gg9 = upd g0 (Int32.toNatClampNeg (nI (ks))) p0 := ⟨_, rfl⟩
    have hPD : kPD dC dI A [(hF, .inr (2, [.ref f0, .ref f1, .ref f2, .ref f3, .ref f4, .int (nI (sv)), .int (nI (ks)), .int (nI (kw))])), (f0, .inl (z0, 10, .inl f_4)), (f1, .inl (z1, 10, .inl g1)), (f2, .inl (z2, 10, .inl g2)), (f3, .inl (z3, 10, .inl g3)), (f4, .inl (z4, 4, .inl g4))] H := by rw [ef_4]; exact ⟨hP, hD⟩
    have hP := hPD.1
    have hD := hPD.2
    refine lv_aload_n hx hb dX2_addPerson_21 rfl (lv_at hl 0 rfl) ?_
    refine va_get (D := (dC, dI)) (ci := 2) (v := .ref f1) (C := RX2) (T := TX2) (N := 8) hx hb hts (fun _ h => List.mem_cons_of_mem _ (List.mem_append_right _ h)) hown hK hP 0 rfl rfl 1 kc_l_1_8 (hts (.fieldLink RX2 15 "NotEnded$Folk" "putIn" "[I") (List.mem_cons_of_mem _ (List.mem_append_left _ (List.mem_of_getElem? (i := 2) rfl)))) (fun _ h9 => h9) rfl dX2_addPerson_22 ?_
    refine lv_aload_n hx hb dX2_addPerson_25 rfl (lv_at hl 0 rfl) ?_
    refine va_get (D := (dC, dI)) (ci := 2) (v := .int (nI (ks))) (C := RX2) (T := TX2) (N := 8) hx hb hts (fun _ h => List.mem_cons_of_mem _ (List.mem_append_right _ h)) hown hK hP 0 rfl rfl 6 kc_l_6_8 (hts (.fieldLink RX2 31 "NotEnded$Folk" "size" "I") (List.mem_cons_of_mem _ (List.mem_append_left _ (List.mem_of_getElem? (i := 0) rfl)))) (fun _ h9 => h9) rfl dX2_addPerson_26 ?_
    refine lv_iload_n hx hb dX2_addPerson_29 rfl (lv_at hl 2 rfl) ?_
    refine va_iast hx hb hK hP hD hS 2 1 rfl rfl (vp_in_nI (n := ks) (N := 10) bd_5 kc_31_10) dX2_addPerson_30 (fun H locs hP hD hS => ?_)
    obtain ⟨f_6, ef_6⟩ : ∃ gg9 : Nat → Int32, gg9 = upd g1 (Int32.toNatClampNeg (nI (ks))) p1 := ⟨_, rfl⟩
    have hPD : kPD dC dI A [(hF, .inr (2, [.ref f0, .ref f1, .ref f2, .ref f3, .ref f4, .int (nI (sv)), .int (nI (ks)), .int (nI (kw))])), (f0, .inl (z0, 10, .inl f_4)), (f1, .inl (z1, 10, .inl f_6)), (f2, .inl (z2, 10, .inl g2)), (f3, .inl (z3, 10, .inl g3)), (f4, .inl (z4, 4, .inl g4))] H := by rw [ef_6]; exact ⟨hP, hD⟩
    have hP := hPD.1
    have hD := hPD.2
    refine lv_aload_n hx hb dX2_addPerson_31 rfl (lv_at hl 0 rfl) ?_
    refine va_get (D := (dC, dI)) (ci := 2) (v := .ref f2) (C := RX2) (T := TX2) (N := 8) hx hb hts (fun _ h => List.mem_cons_of_mem _ (List.mem_append_right _ h)) hown hK hP 0 rfl rfl 2 kc_l_2_8 (hts (.fieldLink RX2 18 "NotEnded$Folk" "houses" "[I") (List.mem_cons_of_mem _ (List.mem_append_left _ (List.mem_of_getElem? (i := 3) rfl)))) (fun _ h9 => h9) rfl dX2_addPerson_32 ?_
    refine lv_aload_n hx hb dX2_addPerson_35 rfl (lv_at hl 0 rfl) ?_
    refine va_get (D := (dC, dI)) (ci := 2) (v := .int (nI (ks))) (C := RX2) (T := TX2) (N := 8) hx hb hts (fun _ h => List.mem_cons_of_mem _ (List.mem_append_right _ h)) hown hK hP 0 rfl rfl 6 kc_l_6_8 (hts (.fieldLink RX2 31 "NotEnded$Folk" "size" "I") (List.mem_cons_of_mem _ (List.mem_append_left _ (List.mem_of_getElem? (i := 0) rfl)))) (fun _ h9 => h9) rfl dX2_addPerson_36 ?_
    refine lv_iload_n hx hb dX2_addPerson_39 rfl (lv_at hl 3 rfl) ?_
    refine va_iast hx hb hK hP hD hS 3 2 rfl rfl (vp_in_nI (n := ks) (N := 10) bd_5 kc_31_10) dX2_addPerson_40 (fun H locs hP hD hS => ?_)
    obtain ⟨f_7, ef_7⟩ : ∃ gg9 : Nat → Int32, gg9 = upd g2 (Int32.toNatClampNeg (nI (ks))) p2 := ⟨_, rfl⟩
    have hPD : kPD dC dI A [(hF, .inr (2, [.ref f0, .ref f1, .ref f2, .ref f3, .ref f4, .int (nI (sv)), .int (nI (ks)), .int (nI (kw))])), (f0, .inl (z0, 10, .inl f_4)), (f1, .inl (z1, 10, .inl f_6)), (f2, .inl (z2, 10, .inl f_7)), (f3, .inl (z3, 10, .inl g3)), (f4, .inl (z4, 4, .inl g4))] H := by rw [ef_7]; exact ⟨hP, hD⟩
    have hP := hPD.1
    have hD := hPD.2
    refine lv_iload hx hb dX2_addPerson_41 (lv_at hl 4 rfl) ?_
    refine lv_if_eq (tgt := 61) hx hb dX2_addPerson_43 kc_t_43_18 (fun c_8 => ?_) (fun c_8 => ?_)
    · refine lv_aload_n hx hb dX2_addPerson_61 rfl (lv_at hl 0 rfl) ?_
      refine lv_dup hx hb dX2_addPerson_62 rfl ?_
      refine va_get (D := (dC, dI)) (ci := 2) (v := .int (nI (ks))) (C := RX2) (T := TX2) (N := 8) hx hb hts (fun _ h => List.mem_cons_of_mem _ (List.mem_append_right _ h)) hown hK hP 0 rfl rfl 6 kc_l_6_8 (hts (.fieldLink RX2 31 "NotEnded$Folk" "size" "I") (List.mem_cons_of_mem _ (List.mem_append_left _ (List.mem_of_getElem? (i := 0) rfl)))) (fun _ h9 => h9) rfl dX2_addPerson_63 ?_
      refine lv_iconst (v := 1) hx hb dX2_addPerson_66 kc_i_1 ?_
      refine lv_iadd hx hb dX2_addPerson_67 ?_
      refine lv_topi (fun y_9 ey_9 => ?_)
      obtain rfl : y_9 = nI (ks + 1) := ey_9.trans (nI_add (ks) (1))
      refine va_put (D := (dC, dI)) (ci := 2) (v := .int (nI (ks + 1))) (ty := tyX2 6) (C := RX2) (T := TX2) (N := 8) hx hb hts (fun _ h => List.mem_cons_of_mem _ (List.mem_append_right _ h)) tyX2 tyX2_ok nmX2 hown hK hP hD hS 0 rfl rfl 6 kc_l_6_8 (hts (.fieldLink RX2 31 "NotEnded$Folk" "size" "I") (List.mem_cons_of_mem _ (List.mem_append_left _ (List.mem_of_getElem? (i := 0) rfl)))) (fun _ h9 => h9) rfl (tyX2_ok 6 kc_l_6_8) rfl rfl (Nat.le_of_ble_eq_true rfl) dX2_addPerson_68 (fun H locs hP hD hS => ?_)
      have hPD : kPD dC dI A [(hF, .inr (2, [.ref f0, .ref f1, .ref f2, .ref f3, .ref f4, .int (nI (sv)), .int (nI (ks + 1)), .int (nI (kw))])), (f0, .inl (z0, 10, .inl f_4)), (f1, .inl (z1, 10, .inl f_6)), (f2, .inl (z2, 10, .inl f_7)), (f3, .inl (z3, 10, .inl g3)), (f4, .inl (z4, 4, .inl g4))] H := ⟨hP, hD⟩
      have hP := hPD.1
      have hD := hPD.2
      refine lv_aload_n hx hb dX2_addPerson_71 rfl (lv_at hl 0 rfl) ?_
      refine va_get (D := (dC, dI)) (ci := 2) (v := .int (nI (ks + 1))) (C := RX2) (T := TX2) (N := 8) hx hb hts (fun _ h => List.mem_cons_of_mem _ (List.mem_append_right _ h)) hown hK hP 0 rfl rfl 6 kc_l_6_8 (hts (.fieldLink RX2 31 "NotEnded$Folk" "size" "I") (List.mem_cons_of_mem _ (List.mem_append_left _ (List.mem_of_getElem? (i := 0) rfl)))) (fun _ h9 => h9) rfl dX2_addPerson_72 ?_
      refine lv_iconst (v := 1) hx hb dX2_addPerson_75 kc_i_1 ?_
      refine lv_isub hx hb dX2_addPerson_76 ?_
      refine lv_topi (fun y_10 ey_10 => ?_)
      obtain rfl : y_10 = nI (ks + 1 - 1) := ey_10.trans (pk_sub (a := ks + 1) (b := 1) (by omega))
      have hP9 := hP
      have hD9 := hD
      have hK9 := hK
      rw [hQ]
      exact W.iret (v := nI (ks + 1 - 1)) hx hb hr (fun t ht hW => ⟨⟨nI (ks + 1 - 1), (f_4, f_6, f_7, sv, (ks + 1)), rfl, ⟨by split <;> first | rfl | omega | (exfalso; omega), by split <;> omega, (by first | omega | exact kOr10 (by omega) (by omega)), by rw [if_pos (by omega)]; first | rw [if_pos c_8] | rw [if_neg c_8]⟩,  by rw [ht]; exact hP9, va_K.moved hW.alike hK9, hD9⟩, hS.F ht⟩) hS.2.2 dX2_addPerson_77
    · refine lv_aload_n hx hb dX2_addPerson_46 rfl (lv_at hl 0 rfl) ?_
      refine lv_dup hx hb dX2_addPerson_47 rfl ?_
      refine va_get (D := (dC, dI)) (ci := 2) (v := .int (nI (sv))) (C := RX2) (T := TX2) (N := 8) hx hb hts (fun _ h => List.mem_cons_of_mem _ (List.mem_append_right _ h)) hown hK hP 0 rfl rfl 5 kc_l_5_8 (hts (.fieldLink RX2 27 "NotEnded$Folk" "sent" "I") (List.mem_cons_of_mem _ (List.mem_append_left _ (List.mem_of_getElem? (i := 4) rfl)))) (fun _ h9 => h9) rfl dX2_addPerson_48 ?_
      refine lv_iconst (v := 1) hx hb dX2_addPerson_51 kc_i_1 ?_
      refine lv_aload_n hx hb dX2_addPerson_52 rfl (lv_at hl 0 rfl) ?_
      refine va_get (D := (dC, dI)) (ci := 2) (v := .int (nI (ks))) (C := RX2) (T := TX2) (N := 8) hx hb hts (fun _ h => List.mem_cons_of_mem _ (List.mem_append_right _ h)) hown hK hP 0 rfl rfl 6 kc_l_6_8 (hts (.fieldLink RX2 31 "NotEnded$Folk" "size" "I") (List.mem_cons_of_mem _ (List.mem_append_left _ (List.mem_of_getElem? (i := 0) rfl)))) (fun _ h9 => h9) rfl dX2_addPerson_53 ?_
      refine lv_ishl hx hb dX2_addPerson_56 ?_
      refine lv_topi (fun y_11 ey_11 => ?_)
      obtain rfl : y_11 = nI (2 ^ (ks)) := ey_11.trans (kShl (n := ks) (by omega))
      refine lv_ior hx hb dX2_addPerson_57 ?_
      refine lv_topi (fun y_12 ey_12 => ?_)
      obtain rfl : y_12 = nI ((sv) ||| (2 ^ (ks))) := ey_12.trans (nI_or _ _)
      refine va_put (D := (dC, dI)) (ci := 2) (v := .int (nI ((sv) ||| (2 ^ (ks))))) (ty := tyX2 5) (C := RX2) (T := TX2) (N := 8) hx hb hts (fun _ h => List.mem_cons_of_mem _ (List.mem_append_right _ h)) tyX2 tyX2_ok nmX2 hown hK hP hD hS 0 rfl rfl 5 kc_l_5_8 (hts (.fieldLink RX2 27 "NotEnded$Folk" "sent" "I") (List.mem_cons_of_mem _ (List.mem_append_left _ (List.mem_of_getElem? (i := 4) rfl)))) (fun _ h9 => h9) rfl (tyX2_ok 5 kc_l_5_8) rfl rfl (Nat.le_of_ble_eq_true rfl) dX2_addPerson_58 (fun H locs hP hD hS => ?_)
      have hPD : kPD dC dI A [(hF, .inr (2, [.ref f0, .ref f1, .ref f2, .ref f3, .ref f4, .int (nI ((sv) ||| (2 ^ (ks)))), .int (nI (ks)), .int (nI (kw))])), (f0, .inl (z0, 10, .inl f_4)), (f1, .inl (z1, 10, .inl f_6)), (f2, .inl (z2, 10, .inl f_7)), (f3, .inl (z3, 10, .inl g3)), (f4, .inl (z4, 4, .inl g4))] H := ⟨hP, hD⟩
      have hP := hPD.1
      have hD := hPD.2
      refine lv_aload_n hx hb dX2_addPerson_61 rfl (lv_at hl 0 rfl) ?_
      refine lv_dup hx hb dX2_addPerson_62 rfl ?_
      refine va_get (D := (dC, dI)) (ci := 2) (v := .int (nI (ks))) (C := RX2) (T := TX2) (N := 8) hx hb hts (fun _ h => List.mem_cons_of_mem _ (List.mem_append_right _ h)) hown hK hP 0 rfl rfl 6 kc_l_6_8 (hts (.fieldLink RX2 31 "NotEnded$Folk" "size" "I") (List.mem_cons_of_mem _ (List.mem_append_left _ (List.mem_of_getElem? (i := 0) rfl)))) (fun _ h9 => h9) rfl dX2_addPerson_63 ?_
      refine lv_iconst (v := 1) hx hb dX2_addPerson_66 kc_i_1 ?_
      refine lv_iadd hx hb dX2_addPerson_67 ?_
      refine lv_topi (fun y_13 ey_13 => ?_)
      obtain rfl : y_13 = nI (ks + 1) := ey_13.trans (nI_add (ks) (1))
      refine va_put (D := (dC, dI)) (ci := 2) (v := .int (nI (ks + 1))) (ty := tyX2 6) (C := RX2) (T := TX2) (N := 8) hx hb hts (fun _ h => List.mem_cons_of_mem _ (List.mem_append_right _ h)) tyX2 tyX2_ok nmX2 hown hK hP hD hS 0 rfl rfl 6 kc_l_6_8 (hts (.fieldLink RX2 31 "NotEnded$Folk" "size" "I") (List.mem_cons_of_mem _ (List.mem_append_left _ (List.mem_of_getElem? (i := 0) rfl)))) (fun _ h9 => h9) rfl (tyX2_ok 6 kc_l_6_8) rfl rfl (Nat.le_of_ble_eq_true rfl) dX2_addPerson_68 (fun H locs hP hD hS => ?_)
      have hPD : kPD dC dI A [(hF, .inr (2, [.ref f0, .ref f1, .ref f2, .ref f3, .ref f4, .int (nI ((sv) ||| (2 ^ (ks)))), .int (nI (ks + 1)), .int (nI (kw))])), (f0, .inl (z0, 10, .inl f_4)), (f1, .inl (z1, 10, .inl f_6)), (f2, .inl (z2, 10, .inl f_7)), (f3, .inl (z3, 10, .inl g3)), (f4, .inl (z4, 4, .inl g4))] H := ⟨hP, hD⟩
      have hP := hPD.1
      have hD := hPD.2
      refine lv_aload_n hx hb dX2_addPerson_71 rfl (lv_at hl 0 rfl) ?_
      refine va_get (D := (dC, dI)) (ci := 2) (v := .int (nI (ks + 1))) (C := RX2) (T := TX2) (N := 8) hx hb hts (fun _ h => List.mem_cons_of_mem _ (List.mem_append_right _ h)) hown hK hP 0 rfl rfl 6 kc_l_6_8 (hts (.fieldLink RX2 31 "NotEnded$Folk" "size" "I") (List.mem_cons_of_mem _ (List.mem_append_left _ (List.mem_of_getElem? (i := 0) rfl)))) (fun _ h9 => h9) rfl dX2_addPerson_72 ?_
      refine lv_iconst (v := 1) hx hb dX2_addPerson_75 kc_i_1 ?_
      refine lv_isub hx hb dX2_addPerson_76 ?_
      refine lv_topi (fun y_14 ey_14 => ?_)
      obtain rfl : y_14 = nI (ks + 1 - 1) := ey_14.trans (pk_sub (a := ks + 1) (b := 1) (by omega))
      have hP9 := hP
      have hD9 := hD
      have hK9 := hK
      rw [hQ]
      exact W.iret (v := nI (ks + 1 - 1)) hx hb hr (fun t ht hW => ⟨⟨nI (ks + 1 - 1), (f_4, f_6, f_7, ((sv) ||| (2 ^ (ks))), (ks + 1)), rfl, ⟨by split <;> first | rfl | omega | (exfalso; omega), by split <;> omega, (by first | omega | exact kOr10 (by omega) (by omega)), by rw [if_pos (by omega)]; first | rw [if_pos c_8] | rw [if_neg c_8]⟩,  by rw [ht]; exact hP9, va_K.moved hW.alike hK9, hD9⟩, hS.F ht⟩) hS.2.2 dX2_addPerson_77
  · have bd_16 : ks < 2147483648 := by omega
    have hn_15 := knlt (a := ks) (b := 10) bd_16 kc_31_10 c_1
    refine lv_iconst (v := (-1)) hx hb dX2_addPerson_9 kc_i_m1 ?_
    have hP9 := hP
    have hD9 := hD
    have hK9 := hK
    rw [hQ]
    exact W.iret (v := (-1)) hx hb hr (fun t ht hW => ⟨⟨(-1), (g0, g1, g2, sv, ks), rfl, ⟨by split <;> first | rfl | omega | (exfalso; omega), by split <;> omega, (by first | omega | exact kOr10 (by omega) (by omega)), by rw [if_neg (by omega)]⟩,  by rw [ht]; exact hP9, va_K.moved hW.alike hK9, hD9⟩, hS.F ht⟩) hS.2.2 dX2_addPerson_10

def w_s_isBit9x : List Cond := .code yX9_isBit cX9_isBit 2 (some .boolean) :: ([])
theorem gw_s_isBit9x : (w_s_isBit9x).all goodWord = true := kGc rfl kGn
set_option maxHeartbeats 4000000 in
set_option maxRecDepth 100000 in
theorem s_isBit9x (l : Launch) (dC : Nat → ClassId) (dI : Nat → Nat → Nat) (p0 : Int32) (p1 : Int32) : Met l yX9_isBit w_s_isBit9x ({ frames := 1, cells := 0, slots := 0, locals := 60 }) (kR dC dI [.int p0, .int p1] [] [] kT) (vp_Si (fun r : Int32 => r = kIsB p0 p1)) 0 0 (fun _ => False) := by
  refine Met.ofW (cc := cX9_isBit) (maxL := 2) (ret := (some .boolean)) (by decide) rfl ?_
  intro p e s m args below meth c s₁ B hml hv
  obtain ⟨rfl, hP, hK, hX⟩ := hv
  have hx := B.exec
  have hb := B.bytes
  have hr := B.returns
  have hts := atoms_spec (ws := w_s_isBit9x) B.pre
  have hown : s.vm.findClass RX9 = some m.cls := findClass_of_methodNamed B.named
  have hlocks := B.notSynchronized
  have hP : va_P (dC, dI) vwCl [] s.heap := hP
  have hl := lv_entry ([.int p0, .int p1]) (n := 2) (Nat.le_of_ble_eq_true rfl)
  rw [lg_entry_eq]
  generalize (lg_sl ([.int p0, .int p1]) ++ List.replicate (2 - (lg_sl ([.int p0, .int p1])).length) Slot.unset).toArray = ls at hl ⊢
  have hl : lv_has ls 2 [(0, .int p0), (1, .int p1)] := hl
  refine kQ (fun Q hQ => ?_)
  refine lv_iload_n hx hb dX9_isBit_0 rfl (lv_at hl 0 rfl) ?_
  refine lv_iload_n hx hb dX9_isBit_1 rfl (lv_at hl 1 rfl) ?_
  refine lv_ishr hx hb dX9_isBit_2 ?_
  refine lv_topi (fun x_1 ex_1 => ?_)
  refine lv_iconst (v := 1) hx hb dX9_isBit_3 kc_i_1 ?_
  refine lv_iand hx hb dX9_isBit_4 ?_
  refine lv_topi (fun x_2 ex_2 => ?_)
  refine lv_if_eq (tgt := 12) hx hb dX9_isBit_5 kc_t_5_7 (fun c_3 => ?_) (fun c_3 => ?_)
  · refine lv_iconst (v := 0) hx hb dX9_isBit_12 kc_i_0 ?_
    rw [hQ]
    exact W.zret (v := 0) hx hb hr rfl (fun t ht hW => ⟨0, rfl, (by unfold kIsB; rw [← ex_1, ← ex_2]; rw [if_pos c_3]), ht⟩) (fun _ h => nomatch h) dX9_isBit_13
  · refine lv_iconst (v := 1) hx hb dX9_isBit_8 kc_i_1 ?_
    refine lv_goto (tgt := 13) hx hb dX9_isBit_9 kc_t_9_4 ?_
    rw [hQ]
    exact W.zret (v := 1) hx hb hr rfl (fun t ht hW => ⟨1, rfl, (by unfold kIsB; rw [← ex_1, ← ex_2]; rw [if_neg c_3]), ht⟩) (fun _ h => nomatch h) dX9_isBit_13

def w_s_isSent2x : List Cond := .code yX2_isSent cX2_isSent 2 (some .boolean) :: ([.fieldLink RX2 27 "NotEnded$Folk" "sent" "I", .initialized RX9, .static yX9_isBit] ++ (wsX20 ++ (w_s_isBit9x)))
theorem gw_s_isSent2x : (w_s_isSent2x).all goodWord = true := kGc rfl (kGa (by decide +kernel) (kGa gw_wsX20 gw_s_isBit9x))
set_option maxHeartbeats 4000000 in
set_option maxRecDepth 100000 in
theorem s_isSent2x (l : Launch) (dC : Nat → ClassId) (dI : Nat → Nat → Nat) (hF : Nat) (f0 : Nat) (f1 : Nat) (f2 : Nat) (f3 : Nat) (f4 : Nat) (z0 : ClassId) (z1 : ClassId) (z2 : ClassId) (z3 : ClassId) (z4 : ClassId) (g0 : Nat → Int32) (g1 : Nat → Int32) (g2 : Nat → Int32) (g3 : Nat → Int32) (g4 : Nat → Int32) (ks : Nat) (kw : Nat) (hks : ks ≤ 10) (hkw : kw ≤ 4) (sv : Nat) (hsv : sv < 1024) (p0 : Int32) : Met l yX2_isSent w_s_isSent2x ({ frames := 2, cells := 0, slots := 0, locals := 120 }) (kR dC dI [.ref hF, .int p0] [(hF, .inr (2, [.ref f0, .ref f1, .ref f2, .ref f3, .ref f4, .int (nI (sv)), .int (nI (ks)), .int (nI (kw))])), (f0, .inl (z0, 10, .inl g0)), (f1, .inl (z1, 10, .inl g1)), (f2, .inl (z2, 10, .inl g2)), (f3, .inl (z3, 10, .inl g3)), (f4, .inl (z4, 4, .inl g4))] [(z0, .int), (z1, .int), (z2, .int), (z3, .int), (z4, .int)] kNL) (vp_Si (fun r : Int32 => r = kIsB (nI sv) p0)) 0 0 (fun _ => False) := by
  refine Met.ofW (cc := cX2_isSent) (maxL := 2) (ret := (some .boolean)) (by decide) rfl ?_
  intro p e s m args below meth c s₁ B hml hv
  obtain ⟨rfl, hP, hK, hX⟩ := hv
  have hx := B.exec
  have hb := B.bytes
  have hr := B.returns
  have hts := atoms_spec (ws := w_s_isSent2x) B.pre
  have hown : s.vm.findClass RX2 = some m.cls := findClass_of_methodNamed B.named
  have hlocks := B.notSynchronized
  have hP : va_P (dC, dI) vwCl [(hF, .inr (2, [.ref f0, .ref f1, .ref f2, .ref f3, .ref f4, .int (nI (sv)), .int (nI (ks)), .int (nI (kw))])), (f0, .inl (z0, 10, .inl g0)), (f1, .inl (z1, 10, .inl g1)), (f2, .inl (z2, 10, .inl g2)), (f3, .inl (z3, 10, .inl g3)), (f4, .inl (z4, 4, .inl g4))] s.heap := hP
  have hl := lv_entry ([.ref hF, .int p0]) (n := 2) (Nat.le_of_ble_eq_true rfl)
  rw [lg_entry_eq]
  generalize (lg_sl ([.ref hF, .int p0]) ++ List.replicate (2 - (lg_sl ([.ref hF, .int p0])).length) Slot.unset).toArray = ls at hl ⊢
  have hl : lv_has ls 2 [(0, .ref hF), (1, .int p0)] := hl
  refine kQ (fun Q hQ => ?_)
  refine lv_aload_n hx hb dX2_isSent_0 rfl (lv_at hl 0 rfl) ?_
  refine va_get (D := (dC, dI)) (ci := 2) (v := .int (nI (sv))) (C := RX2) (T := TX2) (N := 8) hx hb hts (fun _ h => List.mem_cons_of_mem _ (List.mem_append_right _ (List.mem_append_left _ h))) hown hK hP 0 rfl rfl 5 kc_l_5_8 (hts (.fieldLink RX2 27 "NotEnded$Folk" "sent" "I") (List.mem_cons_of_mem _ (List.mem_append_left _ (List.mem_of_getElem? (i := 0) rfl)))) (fun _ h9 => h9) rfl dX2_isSent_1 ?_
  refine lv_iload_n hx hb dX2_isSent_4 rfl (lv_at hl 1 rfl) ?_
  have hPc := hP.sb (ws2 := []) [] rfl
  have hKc := hK.sb (tys2 := []) [] rfl
  refine vp_callSi (va_runSN (As := [.int (nI (sv)), .int p0]) (rest := []) ⟨hx, hb, hml, hown, hts⟩ (s_isBit9x l dC dI (nI (sv)) p0) (⟨va_cnB 2 hts (goodIn_sub (fun _ h => List.mem_cons_of_mem _ (List.mem_append_right _ (List.mem_append_right _ h))) gw_s_isBit9x) rfl rfl rfl (hX _ (List.mem_of_getElem? (i := 14) rfl)) (hts (.initialized RX9) (List.mem_cons_of_mem _ (List.mem_append_left _ (List.mem_of_getElem? (i := 1) rfl)))) hd_X9_isBit ⟨(Nat.le_of_ble_eq_true rfl), (Nat.le_of_ble_eq_true rfl)⟩, (hts (.static yX9_isBit) (List.mem_cons_of_mem _ (List.mem_append_left _ (List.mem_of_getElem? (i := 2) rfl)))), trivial⟩) (kR_S kT_blind kT_give hPc hKc) rfl rfl hl.1 rfl (lv_room (Nat.le_of_ble_eq_true rfl)) dX2_isSent_5 ⟨(Nat.le_of_ble_eq_true rfl), (Nat.le_of_ble_eq_true rfl)⟩).run (fun r_1 hw => ?_)
  have hw_2 := hw
  rw [hQ]
  exact W.zret (v := r_1) hx hb hr (by rw [hw_2]; exact kIsB_nar _ _) (fun t ht hW => ⟨r_1, rfl, hw_2, ht⟩) (fun _ h => nomatch h) dX2_isSent_8

def w_s_add0x : List Cond := .code yX0_add cX0_add 5 (some .int) :: ([.fieldLink RX0 24 "NotEnded$Acts" "size" "I", .fieldLink RX0 9 "NotEnded$Acts" "persons" "[I", .fieldLink RX0 15 "NotEnded$Acts" "kinds" "[I", .fieldLink RX0 18 "NotEnded$Acts" "things" "[I", .fieldLink RX0 21 "NotEnded$Acts" "costs" "[I"] ++ (wsX00))
theorem gw_s_add0x : (w_s_add0x).all goodWord = true := kGc rfl (kGa (by decide +kernel) gw_wsX00)
set_option maxHeartbeats 4000000 in
set_option maxRecDepth 100000 in
theorem s_add0x (l : Launch) (dC : Nat → ClassId) (dI : Nat → Nat → Nat) (jA : Nat) (i0 : Nat) (i1 : Nat) (i2 : Nat) (i3 : Nat) (x0 : ClassId) (x1 : ClassId) (x2 : ClassId) (x3 : ClassId) (t0 : Nat → Int32) (t1 : Nat → Int32) (t2 : Nat → Int32) (t3 : Nat → Int32) (ka : Nat) (hka : ka ≤ 6) (p0 : Int32) (p1 : Int32) (p2 : Int32) (p3 : Int32) (sz : Nat) : Met l yX0_add w_s_add0x ({ frames := 1, cells := 0, slots := 0, locals := 60 }) (kW dC dI [.ref jA, .int p0, .int p1, .int p2, .int p3] [(jA, .inr (0, [.ref i0, .ref i1, .ref i2, .ref i3, .int (nI (ka))])), (i0, .inl (x0, 6, .inl t0)), (i1, .inl (x1, 6, .inl t1)), (i2, .inl (x2, 6, .inl t2)), (i3, .inl (x3, 6, .inl t3))] [(x0, .int), (x1, .int), (x2, .int), (x3, .int)] kT sz) (va_Qi (fun (r : Int32) (u : (Nat → Int32) × (Nat → Int32) × (Nat → Int32) × (Nat → Int32) × Nat) => match u with | (n0, n1, n2, n3, ka1) => (r = (if ka < 6 then nI ka else -1) ∧ ka1 = (if ka < 6 then ka + 1 else ka))) (fun (u : (Nat → Int32) × (Nat → Int32) × (Nat → Int32) × (Nat → Int32) × Nat) => match u with | (n0, n1, n2, n3, ka1) => fun t : State => kB dC dI [(jA, .inr (0, [.ref i0, .ref i1, .ref i2, .ref i3, .int (nI (ka1))])), (i0, .inl (x0, 6, .inl n0)), (i1, .inl (x1, 6, .inl n1)), (i2, .inl (x2, 6, .inl n2)), (i3, .inl (x3, 6, .inl n3))] [(x0, .int), (x1, .int), (x2, .int), (x3, .int)] (va_A [(jA, .inr (0, [.ref i0, .ref i1, .ref i2, .ref i3, .int (nI (ka))])), (i0, .inl (x0, 6, .inl t0)), (i1, .inl (x1, 6, .inl t1)), (i2, .inl (x2, 6, .inl t2)), (i3, .inl (x3, 6, .inl t3))] sz) t) (va_A [(jA, .inr (0, [.ref i0, .ref i1, .ref i2, .ref i3, .int (nI (ka))])), (i0, .inl (x0, 6, .inl t0)), (i1, .inl (x1, 6, .inl t1)), (i2, .inl (x2, 6, .inl t2)), (i3, .inl (x3, 6, .inl t3))] sz)) 0 0 (va_A [(jA, .inr (0, [.ref i0, .ref i1, .ref i2, .ref i3, .int (nI (ka))])), (i0, .inl (x0, 6, .inl t0)), (i1, .inl (x1, 6, .inl t1)), (i2, .inl (x2, 6, .inl t2)), (i3, .inl (x3, 6, .inl t3))] sz) := by
  refine Met.ofW (cc := cX0_add) (maxL := 5) (ret := (some .int)) (by decide) rfl ?_
  intro p e s m args below meth c s₁ B hml hv
  obtain ⟨rfl, hsz, hP, hK, hD0, hX⟩ := hv
  have hx := B.exec
  have hb := B.bytes
  have hr := B.returns
  have hts := atoms_spec (ws := w_s_add0x) B.pre
  have hown : s.vm.findClass RX0 = some m.cls := findClass_of_methodNamed B.named
  have hlocks := B.notSynchronized
  subst hsz
  have hD := hD0.self (sz := s.heap.size)
  generalize hAe : va_A [(jA, .inr (0, [.ref i0, .ref i1, .ref i2, .ref i3, .int (nI (ka))])), (i0, .inl (x0, 6, .inl t0)), (i1, .inl (x1, 6, .inl t1)), (i2, .inl (x2, 6, .inl t2)), (i3, .inl (x3, 6, .inl t3))] s.heap.size = A at hD ⊢
  have hA : ∀ q : Nat, s.heap.size ≤ q → A q := fun q h => by rw [← hAe]; exact Or.inr h
  have hS : va_S A s.heap s.heap [] := va_S.rf
  have hP : va_P (dC, dI) vwCl [(jA, .inr (0, [.ref i0, .ref i1, .ref i2, .ref i3, .int (nI (ka))])), (i0, .inl (x0, 6, .inl t0)), (i1, .inl (x1, 6, .inl t1)), (i2, .inl (x2, 6, .inl t2)), (i3, .inl (x3, 6, .inl t3))] s.heap := hP
  have hl := lv_entry ([.ref jA, .int p0, .int p1, .int p2, .int p3]) (n := 5) (Nat.le_of_ble_eq_true rfl)
  rw [lg_entry_eq]
  generalize (lg_sl ([.ref jA, .int p0, .int p1, .int p2, .int p3]) ++ List.replicate (5 - (lg_sl ([.ref jA, .int p0, .int p1, .int p2, .int p3])).length) Slot.unset).toArray = ls at hl ⊢
  have hl : lv_has ls 5 [(0, .ref jA), (1, .int p0), (2, .int p1), (3, .int p2), (4, .int p3)] := hl
  refine kQ (fun Q hQ => ?_)
  refine lv_aload_n hx hb dX0_add_0 rfl (lv_at hl 0 rfl) ?_
  refine va_get (D := (dC, dI)) (ci := 0) (v := .int (nI (ka))) (C := RX0) (T := TX0) (N := 5) hx hb hts (fun _ h => List.mem_cons_of_mem _ (List.mem_append_right _ h)) hown hK hP 0 rfl rfl 4 kc_l_4_5 (hts (.fieldLink RX0 24 "NotEnded$Acts" "size" "I") (List.mem_cons_of_mem _ (List.mem_append_left _ (List.mem_of_getElem? (i := 0) rfl)))) (fun _ h9 => h9) rfl dX0_add_1 ?_
  refine lv_bipush (v := 6) hx hb dX0_add_4 kc_b_6 ?_
  refine lv_icmp_lt (tgt := 11) hx hb dX0_add_6 kc_t_6_5 (fun c_1 => ?_) (fun c_1 => ?_)
  · have bd_3 : ka < 2147483648 := by omega
    have hn_2 := klt (a := ka) (b := 6) bd_3 kc_31_6 c_1
    refine lv_aload_n hx hb dX0_add_11 rfl (lv_at hl 0 rfl) ?_
    refine va_get (D := (dC, dI)) (ci := 0) (v := .ref i0) (C := RX0) (T := TX0) (N := 5) hx hb hts (fun _ h => List.mem_cons_of_mem _ (List.mem_append_right _ h)) hown hK hP 0 rfl rfl 0 kc_l_0_5 (hts (.fieldLink RX0 9 "NotEnded$Acts" "persons" "[I") (List.mem_cons_of_mem _ (List.mem_append_left _ (List.mem_of_getElem? (i := 1) rfl)))) (fun _ h9 => h9) rfl dX0_add_12 ?_
    refine lv_aload_n hx hb dX0_add_15 rfl (lv_at hl 0 rfl) ?_
    refine va_get (D := (dC, dI)) (ci := 0) (v := .int (nI (ka))) (C := RX0) (T := TX0) (N := 5) hx hb hts (fun _ h => List.mem_cons_of_mem _ (List.mem_append_right _ h)) hown hK hP 0 rfl rfl 4 kc_l_4_5 (hts (.fieldLink RX0 24 "NotEnded$Acts" "size" "I") (List.mem_cons_of_mem _ (List.mem_append_left _ (List.mem_of_getElem? (i := 0) rfl)))) (fun _ h9 => h9) rfl dX0_add_16 ?_
    refine lv_iload_n hx hb dX0_add_19 rfl (lv_at hl 1 rfl) ?_
    have bd_5 : ka < 6 := by omega
    refine va_iast hx hb hK hP hD hS 1 0 rfl rfl (vp_in_nI (n := ka) (N := 6) bd_5 kc_31_6) dX0_add_20 (fun H locs hP hD hS => ?_)
    obtain ⟨f_4, ef_4⟩ : ∃ gg9 : Nat → Int32, gg9 = upd t0 (Int32.toNatClampNeg (nI (ka))) p0 := ⟨_, rfl⟩
    have hPD : kPD dC dI A [(jA, .inr (0, [.ref i0, .ref i1, .ref i2, .ref i3, .int (nI (ka))])), (i0, .inl (x0, 6, .inl f_4)), (i1, .inl (x1, 6, .inl t1)), (i2, .inl (x2, 6, .inl t2)), (i3, .inl (x3, 6, .inl t3))] H := by rw [ef_4]; exact ⟨hP, hD⟩
    have hP := hPD.1
    have hD := hPD.2
    refine lv_aload_n hx hb dX0_add_21 rfl (lv_at hl 0 rfl) ?_
    refine va_get (D := (dC, dI)) (ci := 0) (v := .ref i1) (C := RX0) (T := TX0) (N := 5) hx hb hts (fun _ h => List.mem_cons_of_mem _ (List.mem_append_right _ h)) hown hK hP 0 rfl rfl 1 kc_l_1_5 (hts (.fieldLink RX0 15 "NotEnded$Acts" "kinds" "[I") (List.mem_cons_of_mem _ (List.mem_append_left _ (List.mem_of_getElem? (i := 2) rfl)))) (fun _ h9 => h9) rfl dX0_add_22 ?_
    refine lv_aload_n hx hb dX0_add_25 rfl (lv_at hl 0 rfl) ?_
    refine va_get (D := (dC, dI)) (ci := 0) (v := .int (nI (ka))) (C := RX0) (T := TX0) (N := 5) hx hb hts (fun _ h => List.mem_cons_of_mem _ (List.mem_append_right _ h)) hown hK hP 0 rfl rfl 4 kc_l_4_5 (hts (.fieldLink RX0 24 "NotEnded$Acts" "size" "I") (List.mem_cons_of_mem _ (List.mem_append_left _ (List.mem_of_getElem? (i := 0) rfl)))) (fun _ h9 => h9) rfl dX0_add_26 ?_
    refine lv_iload_n hx hb dX0_add_29 rfl (lv_at hl 2 rfl) ?_
    refine va_iast hx hb hK hP hD hS 2 1 rfl rfl (vp_in_nI (n := ka) (N := 6) bd_5 kc_31_6) dX0_add_30 (fun H locs hP hD hS => ?_)
    obtain ⟨f_6, ef_6⟩ : ∃ gg9 : Nat → Int32, gg9 = upd t1 (Int32.toNatClampNeg (nI (ka))) p1 := ⟨_, rfl⟩
    have hPD : kPD dC dI A [(jA, .inr (0, [.ref i0, .ref i1, .ref i2, .ref i3, .int (nI (ka))])), (i0, .inl (x0, 6, .inl f_4)), (i1, .inl (x1, 6, .inl f_6)), (i2, .inl (x2, 6, .inl t2)), (i3, .inl (x3, 6, .inl t3))] H := by rw [ef_6]; exact ⟨hP, hD⟩
    have hP := hPD.1
    have hD := hPD.2
    refine lv_aload_n hx hb dX0_add_31 rfl (lv_at hl 0 rfl) ?_
    refine va_get (D := (dC, dI)) (ci := 0) (v := .ref i2) (C := RX0) (T := TX0) (N := 5) hx hb hts (fun _ h => List.mem_cons_of_mem _ (List.mem_append_right _ h)) hown hK hP 0 rfl rfl 2 kc_l_2_5 (hts (.fieldLink RX0 18 "NotEnded$Acts" "things" "[I") (List.mem_cons_of_mem _ (List.mem_append_left _ (List.mem_of_getElem? (i := 3) rfl)))) (fun _ h9 => h9) rfl dX0_add_32 ?_
    refine lv_aload_n hx hb dX0_add_35 rfl (lv_at hl 0 rfl) ?_
    refine va_get (D := (dC, dI)) (ci := 0) (v := .int (nI (ka))) (C := RX0) (T := TX0) (N := 5) hx hb hts (fun _ h => List.mem_cons_of_mem _ (List.mem_append_right _ h)) hown hK hP 0 rfl rfl 4 kc_l_4_5 (hts (.fieldLink RX0 24 "NotEnded$Acts" "size" "I") (List.mem_cons_of_mem _ (List.mem_append_left _ (List.mem_of_getElem? (i := 0) rfl)))) (fun _ h9 => h9) rfl dX0_add_36 ?_
    refine lv_iload_n hx hb dX0_add_39 rfl (lv_at hl 3 rfl) ?_
    refine va_iast hx hb hK hP hD hS 3 2 rfl rfl (vp_in_nI (n := ka) (N := 6) bd_5 kc_31_6) dX0_add_40 (fun H locs hP hD hS => ?_)
    obtain ⟨f_7, ef_7⟩ : ∃ gg9 : Nat → Int32, gg9 = upd t2 (Int32.toNatClampNeg (nI (ka))) p2 := ⟨_, rfl⟩
    have hPD : kPD dC dI A [(jA, .inr (0, [.ref i0, .ref i1, .ref i2, .ref i3, .int (nI (ka))])), (i0, .inl (x0, 6, .inl f_4)), (i1, .inl (x1, 6, .inl f_6)), (i2, .inl (x2, 6, .inl f_7)), (i3, .inl (x3, 6, .inl t3))] H := by rw [ef_7]; exact ⟨hP, hD⟩
    have hP := hPD.1
    have hD := hPD.2
    refine lv_aload_n hx hb dX0_add_41 rfl (lv_at hl 0 rfl) ?_
    refine va_get (D := (dC, dI)) (ci := 0) (v := .ref i3) (C := RX0) (T := TX0) (N := 5) hx hb hts (fun _ h => List.mem_cons_of_mem _ (List.mem_append_right _ h)) hown hK hP 0 rfl rfl 3 kc_l_3_5 (hts (.fieldLink RX0 21 "NotEnded$Acts" "costs" "[I") (List.mem_cons_of_mem _ (List.mem_append_left _ (List.mem_of_getElem? (i := 4) rfl)))) (fun _ h9 => h9) rfl dX0_add_42 ?_
    refine lv_aload_n hx hb dX0_add_45 rfl (lv_at hl 0 rfl) ?_
    refine va_get (D := (dC, dI)) (ci := 0) (v := .int (nI (ka))) (C := RX0) (T := TX0) (N := 5) hx hb hts (fun _ h => List.mem_cons_of_mem _ (List.mem_append_right _ h)) hown hK hP 0 rfl rfl 4 kc_l_4_5 (hts (.fieldLink RX0 24 "NotEnded$Acts" "size" "I") (List.mem_cons_of_mem _ (List.mem_append_left _ (List.mem_of_getElem? (i := 0) rfl)))) (fun _ h9 => h9) rfl dX0_add_46 ?_
    refine lv_iload hx hb dX0_add_49 (lv_at hl 4 rfl) ?_
    refine va_iast hx hb hK hP hD hS 4 3 rfl rfl (vp_in_nI (n := ka) (N := 6) bd_5 kc_31_6) dX0_add_51 (fun H locs hP hD hS => ?_)
    obtain ⟨f_8, ef_8⟩ : ∃ gg9 : Nat → Int32, gg9 = upd t3 (Int32.toNatClampNeg (nI (ka))) p3 := ⟨_, rfl⟩
    have hPD : kPD dC dI A [(jA, .inr (0, [.ref i0, .ref i1, .ref i2, .ref i3, .int (nI (ka))])), (i0, .inl (x0, 6, .inl f_4)), (i1, .inl (x1, 6, .inl f_6)), (i2, .inl (x2, 6, .inl f_7)), (i3, .inl (x3, 6, .inl f_8))] H := by rw [ef_8]; exact ⟨hP, hD⟩
    have hP := hPD.1
    have hD := hPD.2
    refine lv_aload_n hx hb dX0_add_52 rfl (lv_at hl 0 rfl) ?_
    refine lv_dup hx hb dX0_add_53 rfl ?_
    refine va_get (D := (dC, dI)) (ci := 0) (v := .int (nI (ka))) (C := RX0) (T := TX0) (N := 5) hx hb hts (fun _ h => List.mem_cons_of_mem _ (List.mem_append_right _ h)) hown hK hP 0 rfl rfl 4 kc_l_4_5 (hts (.fieldLink RX0 24 "NotEnded$Acts" "size" "I") (List.mem_cons_of_mem _ (List.mem_append_left _ (List.mem_of_getElem? (i := 0) rfl)))) (fun _ h9 => h9) rfl dX0_add_54 ?_
    refine lv_iconst (v := 1) hx hb dX0_add_57 kc_i_1 ?_
    refine lv_iadd hx hb dX0_add_58 ?_
    refine lv_topi (fun y_9 ey_9 => ?_)
    obtain rfl : y_9 = nI (ka + 1) := ey_9.trans (nI_add (ka) (1))
    refine va_put (D := (dC, dI)) (ci := 0) (v := .int (nI (ka + 1))) (ty := tyX0 4) (C := RX0) (T := TX0) (N := 5) hx hb hts (fun _ h => List.mem_cons_of_mem _ (List.mem_append_right _ h)) tyX0 tyX0_ok nmX0 hown hK hP hD hS 0 rfl rfl 4 kc_l_4_5 (hts (.fieldLink RX0 24 "NotEnded$Acts" "size" "I") (List.mem_cons_of_mem _ (List.mem_append_left _ (List.mem_of_getElem? (i := 0) rfl)))) (fun _ h9 => h9) rfl (tyX0_ok 4 kc_l_4_5) rfl rfl (Nat.le_of_ble_eq_true rfl) dX0_add_59 (fun H locs hP hD hS => ?_)
    have hPD : kPD dC dI A [(jA, .inr (0, [.ref i0, .ref i1, .ref i2, .ref i3, .int (nI (ka + 1))])), (i0, .inl (x0, 6, .inl f_4)), (i1, .inl (x1, 6, .inl f_6)), (i2, .inl (x2, 6, .inl f_7)), (i3, .inl (x3, 6, .inl f_8))] H := ⟨hP, hD⟩
    have hP := hPD.1
    have hD := hPD.2
    refine lv_aload_n hx hb dX0_add_62 rfl (lv_at hl 0 rfl) ?_
    refine va_get (D := (dC, dI)) (ci := 0) (v := .int (nI (ka + 1))) (C := RX0) (T := TX0) (N := 5) hx hb hts (fun _ h => List.mem_cons_of_mem _ (List.mem_append_right _ h)) hown hK hP 0 rfl rfl 4 kc_l_4_5 (hts (.fieldLink RX0 24 "NotEnded$Acts" "size" "I") (List.mem_cons_of_mem _ (List.mem_append_left _ (List.mem_of_getElem? (i := 0) rfl)))) (fun _ h9 => h9) rfl dX0_add_63 ?_
    refine lv_iconst (v := 1) hx hb dX0_add_66 kc_i_1 ?_
    refine lv_isub hx hb dX0_add_67 ?_
    refine lv_topi (fun y_10 ey_10 => ?_)
    obtain rfl : y_10 = nI (ka + 1 - 1) := ey_10.trans (pk_sub (a := ka + 1) (b := 1) (by omega))
    have hP9 := hP
    have hD9 := hD
    have hK9 := hK
    rw [hQ]
    exact W.iret (v := nI (ka + 1 - 1)) hx hb hr (fun t ht hW => ⟨⟨nI (ka + 1 - 1), (f_4, f_6, f_7, f_8, (ka + 1)), rfl, ⟨by split <;> first | rfl | omega | (exfalso; omega), by split <;> omega⟩,  by rw [ht]; exact hP9, va_K.moved hW.alike hK9, hD9⟩, hS.F ht⟩) hS.2.2 dX0_add_68
  · have bd_12 : ka < 2147483648 := by omega
    have hn_11 := knlt (a := ka) (b := 6) bd_12 kc_31_6 c_1
    refine lv_iconst (v := (-1)) hx hb dX0_add_9 kc_i_m1 ?_
    have hP9 := hP
    have hD9 := hD
    have hK9 := hK
    rw [hQ]
    exact W.iret (v := (-1)) hx hb hr (fun t ht hW => ⟨⟨(-1), (t0, t1, t2, t3, ka), rfl, ⟨by split <;> first | rfl | omega | (exfalso; omega), by split <;> omega⟩,  by rw [ht]; exact hP9, va_K.moved hW.alike hK9, hD9⟩, hS.F ht⟩) hS.2.2 dX0_add_10

def w_s_add3x : List Cond := .code yX3_add cX3_add 6 (some .int) :: ([.fieldLink RX3 27 "NotEnded$Notebook" "size" "I", .fieldLink RX3 9 "NotEnded$Notebook" "persons" "[I", .fieldLink RX3 15 "NotEnded$Notebook" "hours" "[I", .fieldLink RX3 18 "NotEnded$Notebook" "kinds" "[I", .fieldLink RX3 21 "NotEnded$Notebook" "values" "[I", .fieldLink RX3 24 "NotEnded$Notebook" "offs" "[I"] ++ (wsX30))
theorem gw_s_add3x : (w_s_add3x).all goodWord = true := kGc rfl (kGa (by decide +kernel) gw_wsX30)
set_option maxHeartbeats 4000000 in
set_option maxRecDepth 100000 in
theorem s_add3x (l : Launch) (dC : Nat → ClassId) (dI : Nat → Nat → Nat) (hN : Nat) (o0 : Nat) (o1 : Nat) (o2 : Nat) (o3 : Nat) (o4 : Nat) (y0 : ClassId) (y1 : ClassId) (y2 : ClassId) (y3 : ClassId) (y4 : ClassId) (q0 : Nat → Int32) (q1 : Nat → Int32) (q2 : Nat → Int32) (q3 : Nat → Int32) (q4 : Nat → Int32) (kn : Nat) (hkn : kn ≤ 20) (p0 : Int32) (p1 : Int32) (p2 : Int32) (p3 : Int32) (p4 : Int32) (sz : Nat) : Met l yX3_add w_s_add3x ({ frames := 1, cells := 0, slots := 0, locals := 60 }) (kW dC dI [.ref hN, .int p0, .int p1, .int p2, .int p3, .int p4] [(hN, .inr (3, [.ref o0, .ref o1, .ref o2, .ref o3, .ref o4, .int (nI (kn))])), (o0, .inl (y0, 20, .inl q0)), (o1, .inl (y1, 20, .inl q1)), (o2, .inl (y2, 20, .inl q2)), (o3, .inl (y3, 20, .inl q3)), (o4, .inl (y4, 20, .inl q4))] [(y0, .int), (y1, .int), (y2, .int), (y3, .int), (y4, .int)] kT sz) (va_Qi (fun (r : Int32) (u : (Nat → Int32) × (Nat → Int32) × (Nat → Int32) × (Nat → Int32) × (Nat → Int32) × Nat) => match u with | (n0, n1, n2, n3, n4, kn1) => (r = (if kn < 20 then nI (kn + 1) else -1) ∧ kn1 = (if kn < 20 then kn + 1 else kn))) (fun (u : (Nat → Int32) × (Nat → Int32) × (Nat → Int32) × (Nat → Int32) × (Nat → Int32) × Nat) => match u with | (n0, n1, n2, n3, n4, kn1) => fun t : State => kB dC dI [(hN, .inr (3, [.ref o0, .ref o1, .ref o2, .ref o3, .ref o4, .int (nI (kn1))])), (o0, .inl (y0, 20, .inl n0)), (o1, .inl (y1, 20, .inl n1)), (o2, .inl (y2, 20, .inl n2)), (o3, .inl (y3, 20, .inl n3)), (o4, .inl (y4, 20, .inl n4))] [(y0, .int), (y1, .int), (y2, .int), (y3, .int), (y4, .int)] (va_A [(hN, .inr (3, [.ref o0, .ref o1, .ref o2, .ref o3, .ref o4, .int (nI (kn))])), (o0, .inl (y0, 20, .inl q0)), (o1, .inl (y1, 20, .inl q1)), (o2, .inl (y2, 20, .inl q2)), (o3, .inl (y3, 20, .inl q3)), (o4, .inl (y4, 20, .inl q4))] sz) t) (va_A [(hN, .inr (3, [.ref o0, .ref o1, .ref o2, .ref o3, .ref o4, .int (nI (kn))])), (o0, .inl (y0, 20, .inl q0)), (o1, .inl (y1, 20, .inl q1)), (o2, .inl (y2, 20, .inl q2)), (o3, .inl (y3, 20, .inl q3)), (o4, .inl (y4, 20, .inl q4))] sz)) 0 0 (va_A [(hN, .inr (3, [.ref o0, .ref o1, .ref o2, .ref o3, .ref o4, .int (nI (kn))])), (o0, .inl (y0, 20, .inl q0)), (o1, .inl (y1, 20, .inl q1)), (o2, .inl (y2, 20, .inl q2)), (o3, .inl (y3, 20, .inl q3)), (o4, .inl (y4, 20, .inl q4))] sz) := by
  refine Met.ofW (cc := cX3_add) (maxL := 6) (ret := (some .int)) (by decide) rfl ?_
  intro p e s m args below meth c s₁ B hml hv
  obtain ⟨rfl, hsz, hP, hK, hD0, hX⟩ := hv
  have hx := B.exec
  have hb := B.bytes
  have hr := B.returns
  have hts := atoms_spec (ws := w_s_add3x) B.pre
  have hown : s.vm.findClass RX3 = some m.cls := findClass_of_methodNamed B.named
  have hlocks := B.notSynchronized
  subst hsz
  have hD := hD0.self (sz := s.heap.size)
  generalize hAe : va_A [(hN, .inr (3, [.ref o0, .ref o1, .ref o2, .ref o3, .ref o4, .int (nI (kn))])), (o0, .inl (y0, 20, .inl q0)), (o1, .inl (y1, 20, .inl q1)), (o2, .inl (y2, 20, .inl q2)), (o3, .inl (y3, 20, .inl q3)), (o4, .inl (y4, 20, .inl q4))] s.heap.size = A at hD ⊢
  have hA : ∀ q : Nat, s.heap.size ≤ q → A q := fun q h => by rw [← hAe]; exact Or.inr h
  have hS : va_S A s.heap s.heap [] := va_S.rf
  have hP : va_P (dC, dI) vwCl [(hN, .inr (3, [.ref o0, .ref o1, .ref o2, .ref o3, .ref o4, .int (nI (kn))])), (o0, .inl (y0, 20, .inl q0)), (o1, .inl (y1, 20, .inl q1)), (o2, .inl (y2, 20, .inl q2)), (o3, .inl (y3, 20, .inl q3)), (o4, .inl (y4, 20, .inl q4))] s.heap := hP
  have hl := lv_entry ([.ref hN, .int p0, .int p1, .int p2, .int p3, .int p4]) (n := 6) (Nat.le_of_ble_eq_true rfl)
  rw [lg_entry_eq]
  generalize (lg_sl ([.ref hN, .int p0, .int p1, .int p2, .int p3, .int p4]) ++ List.replicate (6 - (lg_sl ([.ref hN, .int p0, .int p1, .int p2, .int p3, .int p4])).length) Slot.unset).toArray = ls at hl ⊢
  have hl : lv_has ls 6 [(0, .ref hN), (1, .int p0), (2, .int p1), (3, .int p2), (4, .int p3), (5, .int p4)] := hl
  refine kQ (fun Q hQ => ?_)
  refine lv_aload_n hx hb dX3_add_0 rfl (lv_at hl 0 rfl) ?_
  refine va_get (D := (dC, dI)) (ci := 3) (v := .int (nI (kn))) (C := RX3) (T := TX3) (N := 6) hx hb hts (fun _ h => List.mem_cons_of_mem _ (List.mem_append_right _ h)) hown hK hP 0 rfl rfl 5 kc_l_5_6 (hts (.fieldLink RX3 27 "NotEnded$Notebook" "size" "I") (List.mem_cons_of_mem _ (List.mem_append_left _ (List.mem_of_getElem? (i := 0) rfl)))) (fun _ h9 => h9) rfl dX3_add_1 ?_
  refine lv_bipush (v := 20) hx hb dX3_add_4 kc_b_20 ?_
  refine lv_icmp_lt (tgt := 11) hx hb dX3_add_6 kc_t_6_5 (fun c_1 => ?_) (fun c_1 => ?_)
  · have bd_3 : kn < 2147483648 := by omega
    have hn_2 := klt (a := kn) (b := 20) bd_3 kc_31_20 c_1
    refine lv_aload_n hx hb dX3_add_11 rfl (lv_at hl 0 rfl) ?_
    refine va_get (D := (dC, dI)) (ci := 3) (v := .ref o0) (C := RX3) (T := TX3) (N := 6) hx hb hts (fun _ h => List.mem_cons_of_mem _ (List.mem_append_right _ h)) hown hK hP 0 rfl rfl 0 kc_l_0_6 (hts (.fieldLink RX3 9 "NotEnded$Notebook" "persons" "[I") (List.mem_cons_of_mem _ (List.mem_append_left _ (List.mem_of_getElem? (i := 1) rfl)))) (fun _ h9 => h9) rfl dX3_add_12 ?_
    refine lv_aload_n hx hb dX3_add_15 rfl (lv_at hl 0 rfl) ?_
    refine va_get (D := (dC, dI)) (ci := 3) (v := .int (nI (kn))) (C := RX3) (T := TX3) (N := 6) hx hb hts (fun _ h => List.mem_cons_of_mem _ (List.mem_append_right _ h)) hown hK hP 0 rfl rfl 5 kc_l_5_6 (hts (.fieldLink RX3 27 "NotEnded$Notebook" "size" "I") (List.mem_cons_of_mem _ (List.mem_append_left _ (List.mem_of_getElem? (i := 0) rfl)))) (fun _ h9 => h9) rfl dX3_add_16 ?_
    refine lv_iload_n hx hb dX3_add_19 rfl (lv_at hl 1 rfl) ?_
    have bd_5 : kn < 20 := by omega
    refine va_iast hx hb hK hP hD hS 1 0 rfl rfl (vp_in_nI (n := kn) (N := 20) bd_5 kc_31_20) dX3_add_20 (fun H locs hP hD hS => ?_)
    obtain ⟨f_4, ef_4⟩ : ∃ gg9 : Nat → Int32, gg9 = upd q0 (Int32.toNatClampNeg (nI (kn))) p0 := ⟨_, rfl⟩
    have hPD : kPD dC dI A [(hN, .inr (3, [.ref o0, .ref o1, .ref o2, .ref o3, .ref o4, .int (nI (kn))])), (o0, .inl (y0, 20, .inl f_4)), (o1, .inl (y1, 20, .inl q1)), (o2, .inl (y2, 20, .inl q2)), (o3, .inl (y3, 20, .inl q3)), (o4, .inl (y4, 20, .inl q4))] H := by rw [ef_4]; exact ⟨hP, hD⟩
    have hP := hPD.1
    have hD := hPD.2
    refine lv_aload_n hx hb dX3_add_21 rfl (lv_at hl 0 rfl) ?_
    refine va_get (D := (dC, dI)) (ci := 3) (v := .ref o1) (C := RX3) (T := TX3) (N := 6) hx hb hts (fun _ h => List.mem_cons_of_mem _ (List.mem_append_right _ h)) hown hK hP 0 rfl rfl 1 kc_l_1_6 (hts (.fieldLink RX3 15 "NotEnded$Notebook" "hours" "[I") (List.mem_cons_of_mem _ (List.mem_append_left _ (List.mem_of_getElem? (i := 2) rfl)))) (fun _ h9 => h9) rfl dX3_add_22 ?_
    refine lv_aload_n hx hb dX3_add_25 rfl (lv_at hl 0 rfl) ?_
    refine va_get (D := (dC, dI)) (ci := 3) (v := .int (nI (kn))) (C := RX3) (T := TX3) (N := 6) hx hb hts (fun _ h => List.mem_cons_of_mem _ (List.mem_append_right _ h)) hown hK hP 0 rfl rfl 5 kc_l_5_6 (hts (.fieldLink RX3 27 "NotEnded$Notebook" "size" "I") (List.mem_cons_of_mem _ (List.mem_append_left _ (List.mem_of_getElem? (i := 0) rfl)))) (fun _ h9 => h9) rfl dX3_add_26 ?_
    refine lv_iload_n hx hb dX3_add_29 rfl (lv_at hl 2 rfl) ?_
    refine va_iast hx hb hK hP hD hS 2 1 rfl rfl (vp_in_nI (n := kn) (N := 20) bd_5 kc_31_20) dX3_add_30 (fun H locs hP hD hS => ?_)
    obtain ⟨f_6, ef_6⟩ : ∃ gg9 : Nat → Int32, gg9 = upd q1 (Int32.toNatClampNeg (nI (kn))) p1 := ⟨_, rfl⟩
    have hPD : kPD dC dI A [(hN, .inr (3, [.ref o0, .ref o1, .ref o2, .ref o3, .ref o4, .int (nI (kn))])), (o0, .inl (y0, 20, .inl f_4)), (o1, .inl (y1, 20, .inl f_6)), (o2, .inl (y2, 20, .inl q2)), (o3, .inl (y3, 20, .inl q3)), (o4, .inl (y4, 20, .inl q4))] H := by rw [ef_6]; exact ⟨hP, hD⟩
    have hP := hPD.1
    have hD := hPD.2
    refine lv_aload_n hx hb dX3_add_31 rfl (lv_at hl 0 rfl) ?_
    refine va_get (D := (dC, dI)) (ci := 3) (v := .ref o2) (C := RX3) (T := TX3) (N := 6) hx hb hts (fun _ h => List.mem_cons_of_mem _ (List.mem_append_right _ h)) hown hK hP 0 rfl rfl 2 kc_l_2_6 (hts (.fieldLink RX3 18 "NotEnded$Notebook" "kinds" "[I") (List.mem_cons_of_mem _ (List.mem_append_left _ (List.mem_of_getElem? (i := 3) rfl)))) (fun _ h9 => h9) rfl dX3_add_32 ?_
    refine lv_aload_n hx hb dX3_add_35 rfl (lv_at hl 0 rfl) ?_
    refine va_get (D := (dC, dI)) (ci := 3) (v := .int (nI (kn))) (C := RX3) (T := TX3) (N := 6) hx hb hts (fun _ h => List.mem_cons_of_mem _ (List.mem_append_right _ h)) hown hK hP 0 rfl rfl 5 kc_l_5_6 (hts (.fieldLink RX3 27 "NotEnded$Notebook" "size" "I") (List.mem_cons_of_mem _ (List.mem_append_left _ (List.mem_of_getElem? (i := 0) rfl)))) (fun _ h9 => h9) rfl dX3_add_36 ?_
    refine lv_iload_n hx hb dX3_add_39 rfl (lv_at hl 3 rfl) ?_
    refine va_iast hx hb hK hP hD hS 3 2 rfl rfl (vp_in_nI (n := kn) (N := 20) bd_5 kc_31_20) dX3_add_40 (fun H locs hP hD hS => ?_)
    obtain ⟨f_7, ef_7⟩ : ∃ gg9 : Nat → Int32, gg9 = upd q2 (Int32.toNatClampNeg (nI (kn))) p2 := ⟨_, rfl⟩
    have hPD : kPD dC dI A [(hN, .inr (3, [.ref o0, .ref o1, .ref o2, .ref o3, .ref o4, .int (nI (kn))])), (o0, .inl (y0, 20, .inl f_4)), (o1, .inl (y1, 20, .inl f_6)), (o2, .inl (y2, 20, .inl f_7)), (o3, .inl (y3, 20, .inl q3)), (o4, .inl (y4, 20, .inl q4))] H := by rw [ef_7]; exact ⟨hP, hD⟩
    have hP := hPD.1
    have hD := hPD.2
    refine lv_aload_n hx hb dX3_add_41 rfl (lv_at hl 0 rfl) ?_
    refine va_get (D := (dC, dI)) (ci := 3) (v := .ref o3) (C := RX3) (T := TX3) (N := 6) hx hb hts (fun _ h => List.mem_cons_of_mem _ (List.mem_append_right _ h)) hown hK hP 0 rfl rfl 3 kc_l_3_6 (hts (.fieldLink RX3 21 "NotEnded$Notebook" "values" "[I") (List.mem_cons_of_mem _ (List.mem_append_left _ (List.mem_of_getElem? (i := 4) rfl)))) (fun _ h9 => h9) rfl dX3_add_42 ?_
    refine lv_aload_n hx hb dX3_add_45 rfl (lv_at hl 0 rfl) ?_
    refine va_get (D := (dC, dI)) (ci := 3) (v := .int (nI (kn))) (C := RX3) (T := TX3) (N := 6) hx hb hts (fun _ h => List.mem_cons_of_mem _ (List.mem_append_right _ h)) hown hK hP 0 rfl rfl 5 kc_l_5_6 (hts (.fieldLink RX3 27 "NotEnded$Notebook" "size" "I") (List.mem_cons_of_mem _ (List.mem_append_left _ (List.mem_of_getElem? (i := 0) rfl)))) (fun _ h9 => h9) rfl dX3_add_46 ?_
    refine lv_iload hx hb dX3_add_49 (lv_at hl 4 rfl) ?_
    refine va_iast hx hb hK hP hD hS 4 3 rfl rfl (vp_in_nI (n := kn) (N := 20) bd_5 kc_31_20) dX3_add_51 (fun H locs hP hD hS => ?_)
    obtain ⟨f_8, ef_8⟩ : ∃ gg9 : Nat → Int32, gg9 = upd q3 (Int32.toNatClampNeg (nI (kn))) p3 := ⟨_, rfl⟩
    have hPD : kPD dC dI A [(hN, .inr (3, [.ref o0, .ref o1, .ref o2, .ref o3, .ref o4, .int (nI (kn))])), (o0, .inl (y0, 20, .inl f_4)), (o1, .inl (y1, 20, .inl f_6)), (o2, .inl (y2, 20, .inl f_7)), (o3, .inl (y3, 20, .inl f_8)), (o4, .inl (y4, 20, .inl q4))] H := by rw [ef_8]; exact ⟨hP, hD⟩
    have hP := hPD.1
    have hD := hPD.2
    refine lv_aload_n hx hb dX3_add_52 rfl (lv_at hl 0 rfl) ?_
    refine va_get (D := (dC, dI)) (ci := 3) (v := .ref o4) (C := RX3) (T := TX3) (N := 6) hx hb hts (fun _ h => List.mem_cons_of_mem _ (List.mem_append_right _ h)) hown hK hP 0 rfl rfl 4 kc_l_4_6 (hts (.fieldLink RX3 24 "NotEnded$Notebook" "offs" "[I") (List.mem_cons_of_mem _ (List.mem_append_left _ (List.mem_of_getElem? (i := 5) rfl)))) (fun _ h9 => h9) rfl dX3_add_53 ?_
    refine lv_aload_n hx hb dX3_add_56 rfl (lv_at hl 0 rfl) ?_
    refine va_get (D := (dC, dI)) (ci := 3) (v := .int (nI (kn))) (C := RX3) (T := TX3) (N := 6) hx hb hts (fun _ h => List.mem_cons_of_mem _ (List.mem_append_right _ h)) hown hK hP 0 rfl rfl 5 kc_l_5_6 (hts (.fieldLink RX3 27 "NotEnded$Notebook" "size" "I") (List.mem_cons_of_mem _ (List.mem_append_left _ (List.mem_of_getElem? (i := 0) rfl)))) (fun _ h9 => h9) rfl dX3_add_57 ?_
    refine lv_iload hx hb dX3_add_60 (lv_at hl 5 rfl) ?_
    refine va_iast hx hb hK hP hD hS 5 4 rfl rfl (vp_in_nI (n := kn) (N := 20) bd_5 kc_31_20) dX3_add_62 (fun H locs hP hD hS => ?_)
    obtain ⟨f_9, ef_9⟩ : ∃ gg9 : Nat → Int32, gg9 = upd q4 (Int32.toNatClampNeg (nI (kn))) p4 := ⟨_, rfl⟩
    have hPD : kPD dC dI A [(hN, .inr (3, [.ref o0, .ref o1, .ref o2, .ref o3, .ref o4, .int (nI (kn))])), (o0, .inl (y0, 20, .inl f_4)), (o1, .inl (y1, 20, .inl f_6)), (o2, .inl (y2, 20, .inl f_7)), (o3, .inl (y3, 20, .inl f_8)), (o4, .inl (y4, 20, .inl f_9))] H := by rw [ef_9]; exact ⟨hP, hD⟩
    have hP := hPD.1
    have hD := hPD.2
    refine lv_aload_n hx hb dX3_add_63 rfl (lv_at hl 0 rfl) ?_
    refine lv_dup hx hb dX3_add_64 rfl ?_
    refine va_get (D := (dC, dI)) (ci := 3) (v := .int (nI (kn))) (C := RX3) (T := TX3) (N := 6) hx hb hts (fun _ h => List.mem_cons_of_mem _ (List.mem_append_right _ h)) hown hK hP 0 rfl rfl 5 kc_l_5_6 (hts (.fieldLink RX3 27 "NotEnded$Notebook" "size" "I") (List.mem_cons_of_mem _ (List.mem_append_left _ (List.mem_of_getElem? (i := 0) rfl)))) (fun _ h9 => h9) rfl dX3_add_65 ?_
    refine lv_iconst (v := 1) hx hb dX3_add_68 kc_i_1 ?_
    refine lv_iadd hx hb dX3_add_69 ?_
    refine lv_topi (fun y_10 ey_10 => ?_)
    obtain rfl : y_10 = nI (kn + 1) := ey_10.trans (nI_add (kn) (1))
    refine va_put (D := (dC, dI)) (ci := 3) (v := .int (nI (kn + 1))) (ty := tyX3 5) (C := RX3) (T := TX3) (N := 6) hx hb hts (fun _ h => List.mem_cons_of_mem _ (List.mem_append_right _ h)) tyX3 tyX3_ok nmX3 hown hK hP hD hS 0 rfl rfl 5 kc_l_5_6 (hts (.fieldLink RX3 27 "NotEnded$Notebook" "size" "I") (List.mem_cons_of_mem _ (List.mem_append_left _ (List.mem_of_getElem? (i := 0) rfl)))) (fun _ h9 => h9) rfl (tyX3_ok 5 kc_l_5_6) rfl rfl (Nat.le_of_ble_eq_true rfl) dX3_add_70 (fun H locs hP hD hS => ?_)
    have hPD : kPD dC dI A [(hN, .inr (3, [.ref o0, .ref o1, .ref o2, .ref o3, .ref o4, .int (nI (kn + 1))])), (o0, .inl (y0, 20, .inl f_4)), (o1, .inl (y1, 20, .inl f_6)), (o2, .inl (y2, 20, .inl f_7)), (o3, .inl (y3, 20, .inl f_8)), (o4, .inl (y4, 20, .inl f_9))] H := ⟨hP, hD⟩
    have hP := hPD.1
    have hD := hPD.2
    refine lv_aload_n hx hb dX3_add_73 rfl (lv_at hl 0 rfl) ?_
    refine va_get (D := (dC, dI)) (ci := 3) (v := .int (nI (kn + 1))) (C := RX3) (T := TX3) (N := 6) hx hb hts (fun _ h => List.mem_cons_of_mem _ (List.mem_append_right _ h)) hown hK hP 0 rfl rfl 5 kc_l_5_6 (hts (.fieldLink RX3 27 "NotEnded$Notebook" "size" "I") (List.mem_cons_of_mem _ (List.mem_append_left _ (List.mem_of_getElem? (i := 0) rfl)))) (fun _ h9 => h9) rfl dX3_add_74 ?_
    have hP9 := hP
    have hD9 := hD
    have hK9 := hK
    rw [hQ]
    exact W.iret (v := nI (kn + 1)) hx hb hr (fun t ht hW => ⟨⟨nI (kn + 1), (f_4, f_6, f_7, f_8, f_9, (kn + 1)), rfl, ⟨by split <;> first | rfl | omega | (exfalso; omega), by split <;> omega⟩,  by rw [ht]; exact hP9, va_K.moved hW.alike hK9, hD9⟩, hS.F ht⟩) hS.2.2 dX3_add_77
  · have bd_12 : kn < 2147483648 := by omega
    have hn_11 := knlt (a := kn) (b := 20) bd_12 kc_31_20 c_1
    refine lv_iconst (v := (-1)) hx hb dX3_add_9 kc_i_m1 ?_
    have hP9 := hP
    have hD9 := hD
    have hK9 := hK
    rw [hQ]
    exact W.iret (v := (-1)) hx hb hr (fun t ht hW => ⟨⟨(-1), (q0, q1, q2, q3, q4, kn), rfl, ⟨by split <;> first | rfl | omega | (exfalso; omega), by split <;> omega⟩,  by rw [ht]; exact hP9, va_K.moved hW.alike hK9, hD9⟩, hS.F ht⟩) hS.2.2 dX3_add_10

def w_s_put7x : List Cond := .code yX7_put cX7_put 2 (some .int) :: ([.initialized RX7, .selects RX7 yX7_isFull yX7_isFull, .instanceMethod yX7_isFull, .methodLink RX7 21 yX7_isFull, .fieldLink RX7 17 "NotEnded$Shelf" "rules" "[LNotEnded$Rule;", .fieldLink RX7 9 "NotEnded$Shelf" "size" "I"] ++ (w_s_isFull7 ++ (wsX70)))
theorem gw_s_put7x : (w_s_put7x).all goodWord = true := kGc rfl (kGa (by decide +kernel) (kGa gw_s_isFull7 gw_wsX70))
set_option maxHeartbeats 4000000 in
set_option maxRecDepth 100000 in
theorem s_put7x (l : Launch) (dC : Nat → ClassId) (dI : Nat → Nat → Nat) (jS : Nat) (rS : Nat) (cH : ClassId) (gH : Nat → Option Nat) (kh : Nat) (nH : Nat) (hnH : nH ≤ 8) (hkx : kh < nH) (ru : Nat) (sA : Nat) (cl : Nat) (sz : Nat) : Met l yX7_put w_s_put7x ({ frames := 2, cells := 0, slots := 0, locals := 120 }) (kW dC dI [.ref jS, .ref ru] [(jS, .inr (7, [.ref rS, .int (nI (kh))])), (rS, .inl (cH, nH, .inr (.inr (.inr (.inr gH))))), (ru, .inr (6, [.ref sA, .ref cl]))] [(cH, .object RX6)] kT sz) (va_Qi (fun (r : Int32) (u : (Nat → Option Nat) × Nat) => match u with | (gH1, kh1) => (r = nI (kh) ∧ kh1 = kh + 1 ∧ gH1 = va_up gH kh (some ru))) (fun (u : (Nat → Option Nat) × Nat) => match u with | (gH1, kh1) => fun t : State => kB dC dI [(jS, .inr (7, [.ref rS, .int (nI (kh1))])), (rS, .inl (cH, nH, .inr (.inr (.inr (.inr gH1))))), (ru, .inr (6, [.ref sA, .ref cl]))] [(cH, .object RX6)] (va_A [(jS, .inr (7, [.ref rS, .int (nI (kh))])), (rS, .inl (cH, nH, .inr (.inr (.inr (.inr gH))))), (ru, .inr (6, [.ref sA, .ref cl]))] sz) t) (va_A [(jS, .inr (7, [.ref rS, .int (nI (kh))])), (rS, .inl (cH, nH, .inr (.inr (.inr (.inr gH))))), (ru, .inr (6, [.ref sA, .ref cl]))] sz)) 0 0 (va_A [(jS, .inr (7, [.ref rS, .int (nI (kh))])), (rS, .inl (cH, nH, .inr (.inr (.inr (.inr gH))))), (ru, .inr (6, [.ref sA, .ref cl]))] sz) := by
  refine Met.ofW (cc := cX7_put) (maxL := 2) (ret := (some .int)) (by decide) rfl ?_
  intro p e s m args below meth c s₁ B hml hv
  obtain ⟨rfl, hsz, hP, hK, hD0, hX⟩ := hv
  have hx := B.exec
  have hb := B.bytes
  have hr := B.returns
  have hts := atoms_spec (ws := w_s_put7x) B.pre
  have hown : s.vm.findClass RX7 = some m.cls := findClass_of_methodNamed B.named
  have hlocks := B.notSynchronized
  subst hsz
  have hD := hD0.self (sz := s.heap.size)
  generalize hAe : va_A [(jS, .inr (7, [.ref rS, .int (nI (kh))])), (rS, .inl (cH, nH, .inr (.inr (.inr (.inr gH))))), (ru, .inr (6, [.ref sA, .ref cl]))] s.heap.size = A at hD ⊢
  have hA : ∀ q : Nat, s.heap.size ≤ q → A q := fun q h => by rw [← hAe]; exact Or.inr h
  have hS : va_S A s.heap s.heap [] := va_S.rf
  have hP : va_P (dC, dI) vwCl [(jS, .inr (7, [.ref rS, .int (nI (kh))])), (rS, .inl (cH, nH, .inr (.inr (.inr (.inr gH))))), (ru, .inr (6, [.ref sA, .ref cl]))] s.heap := hP
  have hl := lv_entry ([.ref jS, .ref ru]) (n := 2) (Nat.le_of_ble_eq_true rfl)
  rw [lg_entry_eq]
  generalize (lg_sl ([.ref jS, .ref ru]) ++ List.replicate (2 - (lg_sl ([.ref jS, .ref ru])).length) Slot.unset).toArray = ls at hl ⊢
  have hl : lv_has ls 2 [(0, .ref jS), (1, .ref ru)] := hl
  refine kQ (fun Q hQ => ?_)
  refine lv_aload_n hx hb dX7_put_0 rfl (lv_at hl 0 rfl) ?_
  have bd_1 : kh ≤ nH := by omega
  have hPc := hP.sb (ws2 := [(jS, .inr (7, [.ref rS, .int (nI (kh))])), (rS, .inl (cH, nH, .inr (.inr (.inr (.inr gH)))))]) [0, 1] rfl
  have hKc := hK.sb (tys2 := [(cH, .object RX6)]) [0] rfl
  refine vp_callSi (va_runV (As := []) (rest := []) ⟨hx, hb, hml, hown, hts⟩ (s_isFull7 l dC dI jS rS cH gH kh nH hnH bd_1) (cwV 0 hts (kG (List.forall_mem_cons.mpr ⟨(List.mem_cons_of_mem _ (List.mem_append_left _ (List.mem_of_getElem? (i := 3) rfl))), (List.forall_mem_cons.mpr ⟨(List.mem_cons_of_mem _ (List.mem_append_left _ (List.mem_of_getElem? (i := 2) rfl))), (List.forall_mem_cons.mpr ⟨(List.mem_cons_of_mem _ (List.mem_append_left _ (List.mem_of_getElem? (i := 1) rfl))), (List.forall_mem_cons.mpr ⟨(List.mem_cons_of_mem _ (List.mem_append_left _ (List.mem_of_getElem? (i := 0) rfl))), (fun _ h => absurd h List.not_mem_nil)⟩)⟩)⟩)⟩) (kGV _ _ _ _) (fun _ h => List.mem_cons_of_mem _ (List.mem_append_right _ (List.mem_append_left _ h))) gw_s_isFull7) rfl rfl rfl ⟨rfl, hd_X7_isFull⟩ ⟨(Nat.le_of_ble_eq_true rfl), (Nat.le_of_ble_eq_true rfl)⟩) (kR_V kT_blind kT_give (va_recv hKc hPc (ci := 7) (q0 := 0) rfl rfl) hPc hKc) rfl rfl hl.1 rfl (lv_room (Nat.le_of_ble_eq_true rfl)) dX7_put_1 ⟨(Nat.le_of_ble_eq_true rfl), (Nat.le_of_ble_eq_true rfl)⟩).run (fun r_2 hw => ?_)
  have hw_3 := hw
  refine lv_if_eq (tgt := 9) hx hb dX7_put_4 kc_t_4_5 (fun c_4 => ?_) (fun c_4 => ?_)
  · refine lv_aload_n hx hb dX7_put_9 rfl (lv_at hl 0 rfl) ?_
    refine va_get (D := (dC, dI)) (ci := 7) (v := .ref rS) (C := RX7) (T := TX7) (N := 2) hx hb hts (fun _ h => List.mem_cons_of_mem _ (List.mem_append_right _ (List.mem_append_right _ h))) hown hK hP 0 rfl rfl 0 kc_l_0_2 (hts (.fieldLink RX7 17 "NotEnded$Shelf" "rules" "[LNotEnded$Rule;") (List.mem_cons_of_mem _ (List.mem_append_left _ (List.mem_of_getElem? (i := 4) rfl)))) (fun _ h9 => h9) rfl dX7_put_10 ?_
    refine lv_aload_n hx hb dX7_put_13 rfl (lv_at hl 0 rfl) ?_
    refine va_get (D := (dC, dI)) (ci := 7) (v := .int (nI (kh))) (C := RX7) (T := TX7) (N := 2) hx hb hts (fun _ h => List.mem_cons_of_mem _ (List.mem_append_right _ (List.mem_append_right _ h))) hown hK hP 0 rfl rfl 1 kc_l_1_2 (hts (.fieldLink RX7 9 "NotEnded$Shelf" "size" "I") (List.mem_cons_of_mem _ (List.mem_append_left _ (List.mem_of_getElem? (i := 5) rfl)))) (fun _ h9 => h9) rfl dX7_put_14 ?_
    refine lv_aload_n hx hb dX7_put_17 rfl (lv_at hl 1 rfl) ?_
    have bd_6 : kh < nH := by omega
    have bd_7 : nH < 2147483648 := by omega
    refine va_astq hx hb hK hP hD hS 1 0 2 6 (r := (RX6, TX6, 2)) rfl rfl rfl rfl (vp_in_nI (n := kh) (N := nH) bd_6 bd_7) dX7_put_18 (fun H locs hP hD hS => ?_)
    obtain ⟨f_5, ef_5⟩ : ∃ gg9 : Nat → Option Nat, gg9 = va_up gH (Int32.toNatClampNeg (nI (kh))) (some ru) := ⟨_, rfl⟩
    have hPD : kPD dC dI A [(jS, .inr (7, [.ref rS, .int (nI (kh))])), (rS, .inl (cH, nH, .inr (.inr (.inr (.inr f_5))))), (ru, .inr (6, [.ref sA, .ref cl]))] H := by rw [ef_5]; exact ⟨hP, hD⟩
    have hP := hPD.1
    have hD := hPD.2
    refine lv_aload_n hx hb dX7_put_19 rfl (lv_at hl 0 rfl) ?_
    refine lv_dup hx hb dX7_put_20 rfl ?_
    refine va_get (D := (dC, dI)) (ci := 7) (v := .int (nI (kh))) (C := RX7) (T := TX7) (N := 2) hx hb hts (fun _ h => List.mem_cons_of_mem _ (List.mem_append_right _ (List.mem_append_right _ h))) hown hK hP 0 rfl rfl 1 kc_l_1_2 (hts (.fieldLink RX7 9 "NotEnded$Shelf" "size" "I") (List.mem_cons_of_mem _ (List.mem_append_left _ (List.mem_of_getElem? (i := 5) rfl)))) (fun _ h9 => h9) rfl dX7_put_21 ?_
    refine lv_iconst (v := 1) hx hb dX7_put_24 kc_i_1 ?_
    refine lv_iadd hx hb dX7_put_25 ?_
    refine lv_topi (fun y_8 ey_8 => ?_)
    obtain rfl : y_8 = nI (kh + 1) := ey_8.trans (nI_add (kh) (1))
    refine va_put (D := (dC, dI)) (ci := 7) (v := .int (nI (kh + 1))) (ty := tyX7 1) (C := RX7) (T := TX7) (N := 2) hx hb hts (fun _ h => List.mem_cons_of_mem _ (List.mem_append_right _ (List.mem_append_right _ h))) tyX7 tyX7_ok nmX7 hown hK hP hD hS 0 rfl rfl 1 kc_l_1_2 (hts (.fieldLink RX7 9 "NotEnded$Shelf" "size" "I") (List.mem_cons_of_mem _ (List.mem_append_left _ (List.mem_of_getElem? (i := 5) rfl)))) (fun _ h9 => h9) rfl (tyX7_ok 1 kc_l_1_2) rfl rfl (Nat.le_of_ble_eq_true rfl) dX7_put_26 (fun H locs hP hD hS => ?_)
    have hPD : kPD dC dI A [(jS, .inr (7, [.ref rS, .int (nI (kh + 1))])), (rS, .inl (cH, nH, .inr (.inr (.inr (.inr f_5))))), (ru, .inr (6, [.ref sA, .ref cl]))] H := ⟨hP, hD⟩
    have hP := hPD.1
    have hD := hPD.2
    refine lv_aload_n hx hb dX7_put_29 rfl (lv_at hl 0 rfl) ?_
    refine va_get (D := (dC, dI)) (ci := 7) (v := .int (nI (kh + 1))) (C := RX7) (T := TX7) (N := 2) hx hb hts (fun _ h => List.mem_cons_of_mem _ (List.mem_append_right _ (List.mem_append_right _ h))) hown hK hP 0 rfl rfl 1 kc_l_1_2 (hts (.fieldLink RX7 9 "NotEnded$Shelf" "size" "I") (List.mem_cons_of_mem _ (List.mem_append_left _ (List.mem_of_getElem? (i := 5) rfl)))) (fun _ h9 => h9) rfl dX7_put_30 ?_
    refine lv_iconst (v := 1) hx hb dX7_put_33 kc_i_1 ?_
    refine lv_isub hx hb dX7_put_34 ?_
    refine lv_topi (fun y_9 ey_9 => ?_)
    obtain rfl : y_9 = nI (kh + 1 - 1) := ey_9.trans (pk_sub (a := kh + 1) (b := 1) (by omega))
    have hP9 := hP
    have hD9 := hD
    have hK9 := hK
    rw [hQ]
    exact W.iret (v := nI (kh + 1 - 1)) hx hb hr (fun t ht hW => ⟨⟨nI (kh + 1 - 1), (f_5, (kh + 1)), rfl, ⟨rfl, rfl, by rw [ef_5, nI_clamp (by omega)]⟩,  by rw [ht]; exact hP9, va_K.moved hW.alike hK9, hD9⟩, hS.F ht⟩) hS.2.2 dX7_put_35
  · refine lv_iconst (v := (-1)) hx hb dX7_put_7 kc_i_m1 ?_
    have hP9 := hP
    have hD9 := hD
    have hK9 := hK
    rw [hQ]
    exact W.iret (v := (-1)) hx hb hr (fun t ht hW => ⟨⟨(-1), (gH, kh), rfl, (by exfalso; exact absurd (kFullN hw_3 c_4) (by omega)),  by rw [ht]; exact hP9, va_K.moved hW.alike hK9, hD9⟩, hS.F ht⟩) hS.2.2 dX7_put_8

def w_s_at7x : List Cond := .code yX7_at cX7_at 2 (some (.object "NotEnded$Rule")) :: ([.fieldLink RX7 9 "NotEnded$Shelf" "size" "I", .fieldLink RX7 17 "NotEnded$Shelf" "rules" "[LNotEnded$Rule;"] ++ (wsX70))
theorem gw_s_at7x : (w_s_at7x).all goodWord = true := kGc rfl (kGa (by decide +kernel) gw_wsX70)
set_option maxHeartbeats 4000000 in
set_option maxRecDepth 100000 in
theorem s_at7x (l : Launch) (dC : Nat → ClassId) (dI : Nat → Nat → Nat) (jS : Nat) (rS : Nat) (cH : ClassId) (gH : Nat → Option Nat) (kh : Nat) (nH : Nat) (hnH : nH ≤ 8) (hkh : kh ≤ nH) (p0 : Int32) : Met l yX7_at w_s_at7x ({ frames := 1, cells := 0, slots := 0, locals := 60 }) (kR dC dI [.ref jS, .int p0] [(jS, .inr (7, [.ref rS, .int (nI (kh))])), (rS, .inl (cH, nH, .inr (.inr (.inr (.inr gH)))))] [(cH, .object RX6)] kT) (va_Sq (fun r : Option Nat => ((r = none ∧ kPn p0 kh = 0) ∨ (kPn p0 kh = 1 ∧ ∃ j : Nat, j < kh ∧ r = gH j)))) 0 0 (fun _ => False) := by
  refine Met.ofW (cc := cX7_at) (maxL := 2) (ret := (some (.object "NotEnded$Rule"))) (by decide) rfl ?_
  intro p e s m args below meth c s₁ B hml hv
  obtain ⟨rfl, hP, hK, hX⟩ := hv
  have hx := B.exec
  have hb := B.bytes
  have hr := B.returns
  have hts := atoms_spec (ws := w_s_at7x) B.pre
  have hown : s.vm.findClass RX7 = some m.cls := findClass_of_methodNamed B.named
  have hlocks := B.notSynchronized
  have hP : va_P (dC, dI) vwCl [(jS, .inr (7, [.ref rS, .int (nI (kh))])), (rS, .inl (cH, nH, .inr (.inr (.inr (.inr gH)))))] s.heap := hP
  have hl := lv_entry ([.ref jS, .int p0]) (n := 2) (Nat.le_of_ble_eq_true rfl)
  rw [lg_entry_eq]
  generalize (lg_sl ([.ref jS, .int p0]) ++ List.replicate (2 - (lg_sl ([.ref jS, .int p0])).length) Slot.unset).toArray = ls at hl ⊢
  have hl : lv_has ls 2 [(0, .ref jS), (1, .int p0)] := hl
  refine kQ (fun Q hQ => ?_)
  refine lv_iload_n hx hb dX7_at_0 rfl (lv_at hl 1 rfl) ?_
  refine lv_if_lt (tgt := 30) hx hb dX7_at_1 kc_t_1_29 (fun c_1 => ?_) (fun c_1 => ?_)
  · refine lv_null hx hb dX7_at_30 ?_
    rw [hQ]
    exact W.aret hx hb hr (Or.inl ⟨_, rfl⟩) (Or.inl rfl) (fun t ht hW => ⟨none, rfl, (Or.inl ⟨rfl, by first | (unfold kPn; rw [if_pos c_1]; done) | (rw [kPn_nI (by omega) (by omega), if_neg (by omega)]; done) | (exfalso; omega)⟩), ht⟩) (fun _ h => nomatch h) dX7_at_31
  · obtain ⟨j_2, hj_2, ej_2⟩ := nI_of c_1
    subst ej_2
    refine lv_iload_n hx hb dX7_at_4 rfl (lv_at hl 1 rfl) ?_
    refine lv_aload_n hx hb dX7_at_5 rfl (lv_at hl 0 rfl) ?_
    refine va_get (D := (dC, dI)) (ci := 7) (v := .int (nI (kh))) (C := RX7) (T := TX7) (N := 2) hx hb hts (fun _ h => List.mem_cons_of_mem _ (List.mem_append_right _ h)) hown hK hP 0 rfl rfl 1 kc_l_1_2 (hts (.fieldLink RX7 9 "NotEnded$Shelf" "size" "I") (List.mem_cons_of_mem _ (List.mem_append_left _ (List.mem_of_getElem? (i := 0) rfl)))) (fun _ h9 => h9) rfl dX7_at_6 ?_
    refine lv_icmp_ge (tgt := 30) hx hb dX7_at_9 kc_t_9_21 (fun c_3 => ?_) (fun c_3 => ?_)
    · have bd_5 : kh < 2147483648 := by omega
      have bd_6 : j_2 < 2147483648 := by omega
      have hn_4 := kle (a := kh) (b := j_2) bd_5 bd_6 c_3
      refine lv_null hx hb dX7_at_30 ?_
      rw [hQ]
      exact W.aret hx hb hr (Or.inl ⟨_, rfl⟩) (Or.inl rfl) (fun t ht hW => ⟨none, rfl, (Or.inl ⟨rfl, by first | (unfold kPn; rw [if_pos c_1]; done) | (rw [kPn_nI (by omega) (by omega), if_neg (by omega)]; done) | (exfalso; omega)⟩), ht⟩) (fun _ h => nomatch h) dX7_at_31
    · have bd_8 : kh < 2147483648 := by omega
      have bd_9 : j_2 < 2147483648 := by omega
      have hn_7 := knle (a := kh) (b := j_2) bd_8 bd_9 c_3
      refine lv_iload_n hx hb dX7_at_12 rfl (lv_at hl 1 rfl) ?_
      refine lv_aload_n hx hb dX7_at_13 rfl (lv_at hl 0 rfl) ?_
      refine va_get (D := (dC, dI)) (ci := 7) (v := .ref rS) (C := RX7) (T := TX7) (N := 2) hx hb hts (fun _ h => List.mem_cons_of_mem _ (List.mem_append_right _ h)) hown hK hP 0 rfl rfl 0 kc_l_0_2 (hts (.fieldLink RX7 17 "NotEnded$Shelf" "rules" "[LNotEnded$Rule;") (List.mem_cons_of_mem _ (List.mem_append_left _ (List.mem_of_getElem? (i := 1) rfl)))) (fun _ h9 => h9) rfl dX7_at_14 ?_
      refine va_alen hx hb hK hP 1 0 rfl rfl (v := nI (nH)) rfl dX7_at_17 ?_
      refine lv_icmp_ge (tgt := 30) hx hb dX7_at_18 kc_t_18_12 (fun c_10 => ?_) (fun c_10 => ?_)
      · have bd_12 : nH < 2147483648 := by omega
        have hn_11 := kle (a := nH) (b := j_2) bd_12 bd_9 c_10
        refine lv_null hx hb dX7_at_30 ?_
        rw [hQ]
        exact W.aret hx hb hr (Or.inl ⟨_, rfl⟩) (Or.inl rfl) (fun t ht hW => ⟨none, rfl, (Or.inl ⟨rfl, by first | (unfold kPn; rw [if_pos c_1]; done) | (rw [kPn_nI (by omega) (by omega), if_neg (by omega)]; done) | (exfalso; omega)⟩), ht⟩) (fun _ h => nomatch h) dX7_at_31
      · have bd_14 : nH < 2147483648 := by omega
        have hn_13 := knle (a := nH) (b := j_2) bd_14 bd_9 c_10
        refine lv_aload_n hx hb dX7_at_21 rfl (lv_at hl 0 rfl) ?_
        refine va_get (D := (dC, dI)) (ci := 7) (v := .ref rS) (C := RX7) (T := TX7) (N := 2) hx hb hts (fun _ h => List.mem_cons_of_mem _ (List.mem_append_right _ h)) hown hK hP 0 rfl rfl 0 kc_l_0_2 (hts (.fieldLink RX7 17 "NotEnded$Shelf" "rules" "[LNotEnded$Rule;") (List.mem_cons_of_mem _ (List.mem_append_left _ (List.mem_of_getElem? (i := 1) rfl)))) (fun _ h9 => h9) rfl dX7_at_22 ?_
        refine lv_iload_n hx hb dX7_at_25 rfl (lv_at hl 1 rfl) ?_
        have bd_15 : j_2 < nH := by omega
        refine va_aldq hx hb hK hP 1 0 rfl rfl (vp_in_nI (n := j_2) (N := nH) bd_15 bd_14) dX7_at_26 ?_
        obtain ⟨x_16, ex_16⟩ : ∃ z9 : Option Nat, z9 = gH (Int32.toNatClampNeg (nI (j_2))) := ⟨_, rfl⟩
        rw [← ex_16]
        refine lv_goto (tgt := 31) hx hb dX7_at_27 kc_t_27_4 ?_
        rw [hQ]
        exact W.aret hx hb hr (Or.inl ⟨_, rfl⟩) (kRfv x_16) (fun t ht hW => ⟨x_16, rfl, (Or.inr ⟨by rw [kPn_nI (by omega) (by omega), if_pos (by omega)], j_2, by omega, by rw [ex_16, nI_clamp (by omega)]⟩), ht⟩) (fun _ h => nomatch h) dX7_at_31

theorem dX9_leastHelp_0 : decode cX9_leastHelp 0 = .ok (.aload_n 0, 1) := kDs0 kf_42 (by decide +kernel)
theorem dX9_leastHelp_1 : decode cX9_leastHelp 1 = .ok (.getfield 70, 3) := kDs2 kf_180 (by decide +kernel)
theorem dX9_leastHelp_4 : decode cX9_leastHelp 4 = .ok (.iload 4, 2) := kDs1 kf_21 (by decide +kernel)
theorem dX9_leastHelp_6 : decode cX9_leastHelp 6 = .ok (.invokevirtual 271, 3) := kDs2 kf_182 (by decide +kernel)
theorem dX9_leastHelp_9 : decode cX9_leastHelp 9 = .ok (.istore 5, 2) := kDs1 kf_54 (by decide +kernel)
theorem dX9_leastHelp_11 : decode cX9_leastHelp 11 = .ok (.iconst (-1), 1) := kDs0 kf_2 (by decide +kernel)
theorem dX9_leastHelp_12 : decode cX9_leastHelp 12 = .ok (.istore 6, 2) := kDs1 kf_54 (by decide +kernel)
theorem dX9_leastHelp_14 : decode cX9_leastHelp 14 = .ok (.iconst 0, 1) := kDs0 kf_3 (by decide +kernel)
theorem dX9_leastHelp_15 : decode cX9_leastHelp 15 = .ok (.istore 7, 2) := kDs1 kf_54 (by decide +kernel)
theorem dX9_leastHelp_17 : decode cX9_leastHelp 17 = .ok (.iload 7, 2) := kDs1 kf_21 (by decide +kernel)
theorem dX9_leastHelp_19 : decode cX9_leastHelp 19 = .ok (.iload 5, 2) := kDs1 kf_21 (by decide +kernel)
theorem dX9_leastHelp_21 : decode cX9_leastHelp 21 = .ok (.if_icmp .gt 68, 3) := kDs4 kf_163 (by decide +kernel)
theorem dX9_leastHelp_89 : decode cX9_leastHelp 89 = .ok (.iload 6, 2) := kDs1 kf_21 (by decide +kernel)
theorem dX9_leastHelp_91 : decode cX9_leastHelp 91 = .ok (.ireturn, 1) := kDs0 kf_172 (by decide +kernel)
theorem dX9_leastHelp_24 : decode cX9_leastHelp 24 = .ok (.iload 7, 2) := kDs1 kf_21 (by decide +kernel)
theorem dX9_leastHelp_26 : decode cX9_leastHelp 26 = .ok (.iload 5, 2) := kDs1 kf_21 (by decide +kernel)
theorem dX9_leastHelp_28 : decode cX9_leastHelp 28 = .ok (.iconst (-1), 1) := kDs0 kf_2 (by decide +kernel)
theorem dX9_leastHelp_29 : decode cX9_leastHelp 29 = .ok (.ixor, 1) := kDs0 kf_130 (by decide +kernel)
theorem dX9_leastHelp_30 : decode cX9_leastHelp 30 = .ok (.iand, 1) := kDs0 kf_126 (by decide +kernel)
theorem dX9_leastHelp_31 : decode cX9_leastHelp 31 = .ok (.ifCond .ne 27, 3) := kDs4 kf_154 (by decide +kernel)
theorem dX9_leastHelp_58 : decode cX9_leastHelp 58 = .ok (.iconst 0, 1) := kDs0 kf_3 (by decide +kernel)
theorem dX9_leastHelp_59 : decode cX9_leastHelp 59 = .ok (.istore 8, 2) := kDs1 kf_54 (by decide +kernel)
theorem dX9_leastHelp_61 : decode cX9_leastHelp 61 = .ok (.iload 8, 2) := kDs1 kf_21 (by decide +kernel)
theorem dX9_leastHelp_63 : decode cX9_leastHelp 63 = .ok (.ifCond .eq 20, 3) := kDs4 kf_153 (by decide +kernel)
theorem dX9_leastHelp_83 : decode cX9_leastHelp 83 = .ok (.iinc 7 1, 3) := kDs5 kf_132 (by decide +kernel)
theorem dX9_leastHelp_86 : decode cX9_leastHelp 86 = .ok (.goto (-69), 3) := kDs4 kf_167 (by decide +kernel)
theorem dX9_leastHelp_34 : decode cX9_leastHelp 34 = .ok (.iload 6, 2) := kDs1 kf_21 (by decide +kernel)
theorem dX9_leastHelp_36 : decode cX9_leastHelp 36 = .ok (.iconst (-1), 1) := kDs0 kf_2 (by decide +kernel)
theorem dX9_leastHelp_37 : decode cX9_leastHelp 37 = .ok (.if_icmp .eq 17, 3) := kDs4 kf_159 (by decide +kernel)
theorem dX9_leastHelp_54 : decode cX9_leastHelp 54 = .ok (.iconst 1, 1) := kDs0 kf_4 (by decide +kernel)
theorem dX9_leastHelp_55 : decode cX9_leastHelp 55 = .ok (.goto 4, 3) := kDs4 kf_167 (by decide +kernel)
theorem dX9_leastHelp_66 : decode cX9_leastHelp 66 = .ok (.aload_n 0, 1) := kDs0 kf_42 (by decide +kernel)
theorem dX9_leastHelp_67 : decode cX9_leastHelp 67 = .ok (.aload_n 1, 1) := kDs0 kf_43 (by decide +kernel)
theorem dX9_leastHelp_68 : decode cX9_leastHelp 68 = .ok (.lload_n 2, 1) := kDs0 kf_32 (by decide +kernel)
theorem dX9_leastHelp_69 : decode cX9_leastHelp 69 = .ok (.iload 4, 2) := kDs1 kf_21 (by decide +kernel)
theorem dX9_leastHelp_71 : decode cX9_leastHelp 71 = .ok (.iload 7, 2) := kDs1 kf_21 (by decide +kernel)
theorem dX9_leastHelp_73 : decode cX9_leastHelp 73 = .ok (.invokevirtual 277, 3) := kDs2 kf_182 (by decide +kernel)
theorem dX9_leastHelp_76 : decode cX9_leastHelp 76 = .ok (.ifCond .eq 7, 3) := kDs4 kf_153 (by decide +kernel)
theorem dX9_leastHelp_79 : decode cX9_leastHelp 79 = .ok (.iload 7, 2) := kDs1 kf_21 (by decide +kernel)
theorem dX9_leastHelp_81 : decode cX9_leastHelp 81 = .ok (.istore 6, 2) := kDs1 kf_54 (by decide +kernel)
theorem dX9_leastHelp_40 : decode cX9_leastHelp 40 = .ok (.aload_n 0, 1) := kDs0 kf_42 (by decide +kernel)
theorem dX9_leastHelp_41 : decode cX9_leastHelp 41 = .ok (.getfield 70, 3) := kDs2 kf_180 (by decide +kernel)
theorem dX9_leastHelp_44 : decode cX9_leastHelp 44 = .ok (.iload 7, 2) := kDs1 kf_21 (by decide +kernel)
theorem dX9_leastHelp_46 : decode cX9_leastHelp 46 = .ok (.iload 6, 2) := kDs1 kf_21 (by decide +kernel)
theorem dX9_leastHelp_48 : decode cX9_leastHelp 48 = .ok (.invokevirtual 274, 3) := kDs2 kf_182 (by decide +kernel)
theorem dX9_leastHelp_51 : decode cX9_leastHelp 51 = .ok (.ifCond .eq 7, 3) := kDs4 kf_153 (by decide +kernel)
def w_s_leastHelp9 : List Cond := .code yX9_leastHelp cX9_leastHelp 9 (some .int) :: ([.fieldLink RX9 70 "NotEnded" "acts" "LNotEnded$Acts;", .initialized RX0, .selects RX0 yX0_actsFor yX0_actsFor, .instanceMethod yX0_actsFor, .methodLink RX9 271 yX0_actsFor, .initialized RX9, .selects RX9 yX9_givesUpBy yX9_givesUpBy, .instanceMethod yX9_givesUpBy, .methodLink RX9 277 yX9_givesUpBy, .selects RX0 yX0_isLess yX0_isLess, .instanceMethod yX0_isLess, .methodLink RX9 274 yX0_isLess] ++ (wsX90 ++ (w_s_actsFor0n ++ (w_s_givesUp9 ++ (w_s_isLess0)))))
theorem gw_s_leastHelp9 : (w_s_leastHelp9).all goodWord = true := kGc rfl (kGa (by decide +kernel) (kGa gw_wsX90 (kGa gw_s_actsFor0n (kGa gw_s_givesUp9 gw_s_isLess0))))
theorem hd_X9_leastHelp : yX9_leastHelp.cls ≠ "java/lang/invoke/MethodHandle" ∧ yX9_leastHelp.cls ≠ "java/lang/invoke/VarHandle" ∧ (parseMethodDescriptor yX9_leastHelp.desc).map (fun d => d.parameters.length) = some 3 := by decide +kernel
set_option maxHeartbeats 4000000 in
set_option maxRecDepth 100000 in
theorem s_leastHelp9 (l : Launch) (dC : Nat → ClassId) (dI : Nat → Nat → Nat) (jX : Nat) (jT : Nat) (jR : Nat) (jL : Nat) (jU : Nat) (hN : Nat) (jA : Nat) (sd : Nat) (jC : Nat) (d2 : Nat) (d3 : Nat) (d4 : Nat) (d5 : Nat) (d6 : Nat) (d7 : Nat) (d8 : Nat) (d9 : Nat) (d10 : Nat) (d11 : Nat) (d12 : Nat) (d13 : Nat) (w2 : ClassId) (w3 : ClassId) (w4 : ClassId) (w5 : ClassId) (w6 : ClassId) (w7 : ClassId) (w8 : ClassId) (w9 : ClassId) (w10 : ClassId) (w11 : ClassId) (w12 : ClassId) (w13 : ClassId) (e2 : Nat → Int32) (e3 : Nat → Int32) (e4 : Nat → Int32) (e5 : Nat → Int32) (e6 : Nat → Int32) (e7 : Nat → Int32) (e8 : Nat → Int32) (e9 : Nat → Int32) (e10 : Nat → Int32) (e11 : Nat → Int32) (e12 : Nat → Int32) (e13 : Nat → Int64) (dr : Int64) (pr : Int32) (mo : Int32) (ho : Int32) (hF : Nat) (f0 : Nat) (f1 : Nat) (f2 : Nat) (f3 : Nat) (f4 : Nat) (z0 : ClassId) (z1 : ClassId) (z2 : ClassId) (z3 : ClassId) (z4 : ClassId) (g0 : Nat → Int32) (g1 : Nat → Int32) (g2 : Nat → Int32) (g3 : Nat → Int32) (g4 : Nat → Int32) (ks : Nat) (kw : Nat) (hks : ks ≤ 10) (hkw : kw ≤ 4) (sv : Nat) (hsv : sv < 1024) (jK : Nat) (k0 : Nat) (k1 : Nat) (cK : ClassId) (cO : ClassId) (l0 : Nat → Int32) (l1 : Nat → Int32) (ru : Nat) (sA : Nat) (cl : Nat) (cS : ClassId) (cc : ClassId) (nS : Nat) (nC : Nat) (gS : Nat → Int32) (gC : Nat → Int32) (hnS : nS ≤ 200) (hnC : nC ≤ 200) (o0 : Nat) (o1 : Nat) (o2 : Nat) (o3 : Nat) (o4 : Nat) (y0 : ClassId) (y1 : ClassId) (y2 : ClassId) (y3 : ClassId) (y4 : ClassId) (q0 : Nat → Int32) (q1 : Nat → Int32) (q2 : Nat → Int32) (q3 : Nat → Int32) (q4 : Nat → Int32) (kn : Nat) (hkn : kn ≤ 20) (i0 : Nat) (i1 : Nat) (i2 : Nat) (i3 : Nat) (x0 : ClassId) (x1 : ClassId) (x2 : ClassId) (x3 : ClassId) (t0 : Nat → Int32) (t1 : Nat → Int32) (t2 : Nat → Int32) (t3 : Nat → Int32) (ka : Nat) (hka : ka ≤ 6) (lw : Value) (p1 : Int64) (p2 : Int32) (sz : Nat) : Met l yX9_leastHelp w_s_leastHelp9 ({ frames := 8, cells := 0, slots := 0, locals := 480 }) (kW dC dI [.ref jX, .ref ru, .long p1, .int p2] [(jX, .inr (9, [.ref jT, .ref jR, .ref jK, .ref jL, .ref jU, .ref hF, .ref jC, .ref hN, .ref jA, .ref sd])), (jC, .inr (1, [.ref hF, .ref jK, .ref d2, .ref d3, .ref d4, .ref d5, .ref d6, .ref d7, .ref d8, .ref d9, .ref d10, .ref d11, .ref d12, .ref d13, lw, .long dr, .int pr, .int mo, .int ho])), (d2, .inl (w2, 10, .inl e2)), (d3, .inl (w3, 10, .inl e3)), (d4, .inl (w4, 10, .inl e4)), (d5, .inl (w5, 10, .inl e5)), (d6, .inl (w6, 10, .inl e6)), (d7, .inl (w7, 10, .inl e7)), (d8, .inl (w8, 10, .inl e8)), (d9, .inl (w9, 10, .inl e9)), (d10, .inl (w10, 4, .inl e10)), (d11, .inl (w11, 4, .inl e11)), (d12, .inl (w12, 4, .inl e12)), (d13, .inl (w13, 9, .inr (.inl e13))), (hF, .inr (2, [.ref f0, .ref f1, .ref f2, .ref f3, .ref f4, .int (nI (sv)), .int (nI (ks)), .int (nI (kw))])), (f0, .inl (z0, 10, .inl g0)), (f1, .inl (z1, 10, .inl g1)), (f2, .inl (z2, 10, .inl g2)), (f3, .inl (z3, 10, .inl g3)), (f4, .inl (z4, 4, .inl g4)), (jK, .inr (5, [.ref k0, .ref k1])), (k0, .inl (cK, 8, .inl l0)), (k1, .inl (cO, 32, .inl l1)), (hN, .inr (3, [.ref o0, .ref o1, .ref o2, .ref o3, .ref o4, .int (nI (kn))])), (o0, .inl (y0, 20, .inl q0)), (o1, .inl (y1, 20, .inl q1)), (o2, .inl (y2, 20, .inl q2)), (o3, .inl (y3, 20, .inl q3)), (o4, .inl (y4, 20, .inl q4)), (jA, .inr (0, [.ref i0, .ref i1, .ref i2, .ref i3, .int (nI (ka))])), (i0, .inl (x0, 6, .inl t0)), (i1, .inl (x1, 6, .inl t1)), (i2, .inl (x2, 6, .inl t2)), (i3, .inl (x3, 6, .inl t3))] [(w2, .int), (w3, .int), (w4, .int), (w5, .int), (w6, .int), (w7, .int), (w8, .int), (w9, .int), (w10, .int), (w11, .int), (w12, .int), (w13, .long), (z0, .int), (z1, .int), (z2, .int), (z3, .int), (z4, .int), (cK, .int), (cO, .int), (y0, .int), (y1, .int), (y2, .int), (y3, .int), (y4, .int), (x0, .int), (x1, .int), (x2, .int), (x3, .int), (cS, .int), (cc, .int)] (kNF dC dI [(ru, .inr (6, [.ref sA, .ref cl])), (sA, .inl (cS, nS, .inl gS)), (cl, .inl (cc, nC, .inl gC))] (va_A [(jX, .inr (9, [.ref jT, .ref jR, .ref jK, .ref jL, .ref jU, .ref hF, .ref jC, .ref hN, .ref jA, .ref sd])), (jC, .inr (1, [.ref hF, .ref jK, .ref d2, .ref d3, .ref d4, .ref d5, .ref d6, .ref d7, .ref d8, .ref d9, .ref d10, .ref d11, .ref d12, .ref d13, lw, .long dr, .int pr, .int mo, .int ho])), (d2, .inl (w2, 10, .inl e2)), (d3, .inl (w3, 10, .inl e3)), (d4, .inl (w4, 10, .inl e4)), (d5, .inl (w5, 10, .inl e5)), (d6, .inl (w6, 10, .inl e6)), (d7, .inl (w7, 10, .inl e7)), (d8, .inl (w8, 10, .inl e8)), (d9, .inl (w9, 10, .inl e9)), (d10, .inl (w10, 4, .inl e10)), (d11, .inl (w11, 4, .inl e11)), (d12, .inl (w12, 4, .inl e12)), (d13, .inl (w13, 9, .inr (.inl e13))), (hF, .inr (2, [.ref f0, .ref f1, .ref f2, .ref f3, .ref f4, .int (nI (sv)), .int (nI (ks)), .int (nI (kw))])), (f0, .inl (z0, 10, .inl g0)), (f1, .inl (z1, 10, .inl g1)), (f2, .inl (z2, 10, .inl g2)), (f3, .inl (z3, 10, .inl g3)), (f4, .inl (z4, 4, .inl g4)), (jK, .inr (5, [.ref k0, .ref k1])), (k0, .inl (cK, 8, .inl l0)), (k1, .inl (cO, 32, .inl l1)), (hN, .inr (3, [.ref o0, .ref o1, .ref o2, .ref o3, .ref o4, .int (nI (kn))])), (o0, .inl (y0, 20, .inl q0)), (o1, .inl (y1, 20, .inl q1)), (o2, .inl (y2, 20, .inl q2)), (o3, .inl (y3, 20, .inl q3)), (o4, .inl (y4, 20, .inl q4)), (jA, .inr (0, [.ref i0, .ref i1, .ref i2, .ref i3, .int (nI (ka))])), (i0, .inl (x0, 6, .inl t0)), (i1, .inl (x1, 6, .inl t1)), (i2, .inl (x2, 6, .inl t2)), (i3, .inl (x3, 6, .inl t3))] sz)) sz) (va_Qi (fun (r : Int32) (u : (Nat → Int32) × (Nat → Int32) × (Nat → Int32) × (Nat → Int32) × (Nat → Int32) × (Nat → Int32) × (Nat → Int32) × (Nat → Int32) × (Nat → Int32) × (Nat → Int32) × (Nat → Int32) × (Nat → Int64) × (Nat → Int32) × (Nat → Int32) × Int32 × Int32 × Int32 × Int64 × Value) => match u with | (E2, E3, E4, E5, E6, E7, E8, E9, E10, E11, E12, E13, L0, L1, Pr, Mo, Ho, Dr, Lw) => True) (fun (u : (Nat → Int32) × (Nat → Int32) × (Nat → Int32) × (Nat → Int32) × (Nat → Int32) × (Nat → Int32) × (Nat → Int32) × (Nat → Int32) × (Nat → Int32) × (Nat → Int32) × (Nat → Int32) × (Nat → Int64) × (Nat → Int32) × (Nat → Int32) × Int32 × Int32 × Int32 × Int64 × Value) => match u with | (E2, E3, E4, E5, E6, E7, E8, E9, E10, E11, E12, E13, L0, L1, Pr, Mo, Ho, Dr, Lw) => fun t : State => kB dC dI [(jX, .inr (9, [.ref jT, .ref jR, .ref jK, .ref jL, .ref jU, .ref hF, .ref jC, .ref hN, .ref jA, .ref sd])), (jC, .inr (1, [.ref hF, .ref jK, .ref d2, .ref d3, .ref d4, .ref d5, .ref d6, .ref d7, .ref d8, .ref d9, .ref d10, .ref d11, .ref d12, .ref d13, Lw, .long Dr, .int Pr, .int Mo, .int Ho])), (d2, .inl (w2, 10, .inl E2)), (d3, .inl (w3, 10, .inl E3)), (d4, .inl (w4, 10, .inl E4)), (d5, .inl (w5, 10, .inl E5)), (d6, .inl (w6, 10, .inl E6)), (d7, .inl (w7, 10, .inl E7)), (d8, .inl (w8, 10, .inl E8)), (d9, .inl (w9, 10, .inl E9)), (d10, .inl (w10, 4, .inl E10)), (d11, .inl (w11, 4, .inl E11)), (d12, .inl (w12, 4, .inl E12)), (d13, .inl (w13, 9, .inr (.inl E13))), (hF, .inr (2, [.ref f0, .ref f1, .ref f2, .ref f3, .ref f4, .int (nI (sv)), .int (nI (ks)), .int (nI (kw))])), (f0, .inl (z0, 10, .inl g0)), (f1, .inl (z1, 10, .inl g1)), (f2, .inl (z2, 10, .inl g2)), (f3, .inl (z3, 10, .inl g3)), (f4, .inl (z4, 4, .inl g4)), (jK, .inr (5, [.ref k0, .ref k1])), (k0, .inl (cK, 8, .inl L0)), (k1, .inl (cO, 32, .inl L1)), (hN, .inr (3, [.ref o0, .ref o1, .ref o2, .ref o3, .ref o4, .int (nI (kn))])), (o0, .inl (y0, 20, .inl q0)), (o1, .inl (y1, 20, .inl q1)), (o2, .inl (y2, 20, .inl q2)), (o3, .inl (y3, 20, .inl q3)), (o4, .inl (y4, 20, .inl q4)), (jA, .inr (0, [.ref i0, .ref i1, .ref i2, .ref i3, .int (nI (ka))])), (i0, .inl (x0, 6, .inl t0)), (i1, .inl (x1, 6, .inl t1)), (i2, .inl (x2, 6, .inl t2)), (i3, .inl (x3, 6, .inl t3))] [(w2, .int), (w3, .int), (w4, .int), (w5, .int), (w6, .int), (w7, .int), (w8, .int), (w9, .int), (w10, .int), (w11, .int), (w12, .int), (w13, .long), (z0, .int), (z1, .int), (z2, .int), (z3, .int), (z4, .int), (cK, .int), (cO, .int), (y0, .int), (y1, .int), (y2, .int), (y3, .int), (y4, .int), (x0, .int), (x1, .int), (x2, .int), (x3, .int), (cS, .int), (cc, .int)] (va_A [(jX, .inr (9, [.ref jT, .ref jR, .ref jK, .ref jL, .ref jU, .ref hF, .ref jC, .ref hN, .ref jA, .ref sd])), (jC, .inr (1, [.ref hF, .ref jK, .ref d2, .ref d3, .ref d4, .ref d5, .ref d6, .ref d7, .ref d8, .ref d9, .ref d10, .ref d11, .ref d12, .ref d13, lw, .long dr, .int pr, .int mo, .int ho])), (d2, .inl (w2, 10, .inl e2)), (d3, .inl (w3, 10, .inl e3)), (d4, .inl (w4, 10, .inl e4)), (d5, .inl (w5, 10, .inl e5)), (d6, .inl (w6, 10, .inl e6)), (d7, .inl (w7, 10, .inl e7)), (d8, .inl (w8, 10, .inl e8)), (d9, .inl (w9, 10, .inl e9)), (d10, .inl (w10, 4, .inl e10)), (d11, .inl (w11, 4, .inl e11)), (d12, .inl (w12, 4, .inl e12)), (d13, .inl (w13, 9, .inr (.inl e13))), (hF, .inr (2, [.ref f0, .ref f1, .ref f2, .ref f3, .ref f4, .int (nI (sv)), .int (nI (ks)), .int (nI (kw))])), (f0, .inl (z0, 10, .inl g0)), (f1, .inl (z1, 10, .inl g1)), (f2, .inl (z2, 10, .inl g2)), (f3, .inl (z3, 10, .inl g3)), (f4, .inl (z4, 4, .inl g4)), (jK, .inr (5, [.ref k0, .ref k1])), (k0, .inl (cK, 8, .inl l0)), (k1, .inl (cO, 32, .inl l1)), (hN, .inr (3, [.ref o0, .ref o1, .ref o2, .ref o3, .ref o4, .int (nI (kn))])), (o0, .inl (y0, 20, .inl q0)), (o1, .inl (y1, 20, .inl q1)), (o2, .inl (y2, 20, .inl q2)), (o3, .inl (y3, 20, .inl q3)), (o4, .inl (y4, 20, .inl q4)), (jA, .inr (0, [.ref i0, .ref i1, .ref i2, .ref i3, .int (nI (ka))])), (i0, .inl (x0, 6, .inl t0)), (i1, .inl (x1, 6, .inl t1)), (i2, .inl (x2, 6, .inl t2)), (i3, .inl (x3, 6, .inl t3))] sz) t) (va_A [(jX, .inr (9, [.ref jT, .ref jR, .ref jK, .ref jL, .ref jU, .ref hF, .ref jC, .ref hN, .ref jA, .ref sd])), (jC, .inr (1, [.ref hF, .ref jK, .ref d2, .ref d3, .ref d4, .ref d5, .ref d6, .ref d7, .ref d8, .ref d9, .ref d10, .ref d11, .ref d12, .ref d13, lw, .long dr, .int pr, .int mo, .int ho])), (d2, .inl (w2, 10, .inl e2)), (d3, .inl (w3, 10, .inl e3)), (d4, .inl (w4, 10, .inl e4)), (d5, .inl (w5, 10, .inl e5)), (d6, .inl (w6, 10, .inl e6)), (d7, .inl (w7, 10, .inl e7)), (d8, .inl (w8, 10, .inl e8)), (d9, .inl (w9, 10, .inl e9)), (d10, .inl (w10, 4, .inl e10)), (d11, .inl (w11, 4, .inl e11)), (d12, .inl (w12, 4, .inl e12)), (d13, .inl (w13, 9, .inr (.inl e13))), (hF, .inr (2, [.ref f0, .ref f1, .ref f2, .ref f3, .ref f4, .int (nI (sv)), .int (nI (ks)), .int (nI (kw))])), (f0, .inl (z0, 10, .inl g0)), (f1, .inl (z1, 10, .inl g1)), (f2, .inl (z2, 10, .inl g2)), (f3, .inl (z3, 10, .inl g3)), (f4, .inl (z4, 4, .inl g4)), (jK, .inr (5, [.ref k0, .ref k1])), (k0, .inl (cK, 8, .inl l0)), (k1, .inl (cO, 32, .inl l1)), (hN, .inr (3, [.ref o0, .ref o1, .ref o2, .ref o3, .ref o4, .int (nI (kn))])), (o0, .inl (y0, 20, .inl q0)), (o1, .inl (y1, 20, .inl q1)), (o2, .inl (y2, 20, .inl q2)), (o3, .inl (y3, 20, .inl q3)), (o4, .inl (y4, 20, .inl q4)), (jA, .inr (0, [.ref i0, .ref i1, .ref i2, .ref i3, .int (nI (ka))])), (i0, .inl (x0, 6, .inl t0)), (i1, .inl (x1, 6, .inl t1)), (i2, .inl (x2, 6, .inl t2)), (i3, .inl (x3, 6, .inl t3))] sz)) 0 0 (va_A [(jX, .inr (9, [.ref jT, .ref jR, .ref jK, .ref jL, .ref jU, .ref hF, .ref jC, .ref hN, .ref jA, .ref sd])), (jC, .inr (1, [.ref hF, .ref jK, .ref d2, .ref d3, .ref d4, .ref d5, .ref d6, .ref d7, .ref d8, .ref d9, .ref d10, .ref d11, .ref d12, .ref d13, lw, .long dr, .int pr, .int mo, .int ho])), (d2, .inl (w2, 10, .inl e2)), (d3, .inl (w3, 10, .inl e3)), (d4, .inl (w4, 10, .inl e4)), (d5, .inl (w5, 10, .inl e5)), (d6, .inl (w6, 10, .inl e6)), (d7, .inl (w7, 10, .inl e7)), (d8, .inl (w8, 10, .inl e8)), (d9, .inl (w9, 10, .inl e9)), (d10, .inl (w10, 4, .inl e10)), (d11, .inl (w11, 4, .inl e11)), (d12, .inl (w12, 4, .inl e12)), (d13, .inl (w13, 9, .inr (.inl e13))), (hF, .inr (2, [.ref f0, .ref f1, .ref f2, .ref f3, .ref f4, .int (nI (sv)), .int (nI (ks)), .int (nI (kw))])), (f0, .inl (z0, 10, .inl g0)), (f1, .inl (z1, 10, .inl g1)), (f2, .inl (z2, 10, .inl g2)), (f3, .inl (z3, 10, .inl g3)), (f4, .inl (z4, 4, .inl g4)), (jK, .inr (5, [.ref k0, .ref k1])), (k0, .inl (cK, 8, .inl l0)), (k1, .inl (cO, 32, .inl l1)), (hN, .inr (3, [.ref o0, .ref o1, .ref o2, .ref o3, .ref o4, .int (nI (kn))])), (o0, .inl (y0, 20, .inl q0)), (o1, .inl (y1, 20, .inl q1)), (o2, .inl (y2, 20, .inl q2)), (o3, .inl (y3, 20, .inl q3)), (o4, .inl (y4, 20, .inl q4)), (jA, .inr (0, [.ref i0, .ref i1, .ref i2, .ref i3, .int (nI (ka))])), (i0, .inl (x0, 6, .inl t0)), (i1, .inl (x1, 6, .inl t1)), (i2, .inl (x2, 6, .inl t2)), (i3, .inl (x3, 6, .inl t3))] sz) := by
  refine Met.ofW (cc := cX9_leastHelp) (maxL := 9) (ret := (some .int)) (by decide) rfl ?_
  intro p e s m args below meth c s₁ B hml hv
  obtain ⟨rfl, hsz, hP, hK, hD0, hX⟩ := hv
  have hx := B.exec
  have hb := B.bytes
  have hr := B.returns
  have hts := atoms_spec (ws := w_s_leastHelp9) B.pre
  have hown : s.vm.findClass RX9 = some m.cls := findClass_of_methodNamed B.named
  have hlocks := B.notSynchronized
  subst hsz
  have hD := hD0.self (sz := s.heap.size)
  generalize hAe : va_A [(jX, .inr (9, [.ref jT, .ref jR, .ref jK, .ref jL, .ref jU, .ref hF, .ref jC, .ref hN, .ref jA, .ref sd])), (jC, .inr (1, [.ref hF, .ref jK, .ref d2, .ref d3, .ref d4, .ref d5, .ref d6, .ref d7, .ref d8, .ref d9, .ref d10, .ref d11, .ref d12, .ref d13, lw, .long dr, .int pr, .int mo, .int ho])), (d2, .inl (w2, 10, .inl e2)), (d3, .inl (w3, 10, .inl e3)), (d4, .inl (w4, 10, .inl e4)), (d5, .inl (w5, 10, .inl e5)), (d6, .inl (w6, 10, .inl e6)), (d7, .inl (w7, 10, .inl e7)), (d8, .inl (w8, 10, .inl e8)), (d9, .inl (w9, 10, .inl e9)), (d10, .inl (w10, 4, .inl e10)), (d11, .inl (w11, 4, .inl e11)), (d12, .inl (w12, 4, .inl e12)), (d13, .inl (w13, 9, .inr (.inl e13))), (hF, .inr (2, [.ref f0, .ref f1, .ref f2, .ref f3, .ref f4, .int (nI (sv)), .int (nI (ks)), .int (nI (kw))])), (f0, .inl (z0, 10, .inl g0)), (f1, .inl (z1, 10, .inl g1)), (f2, .inl (z2, 10, .inl g2)), (f3, .inl (z3, 10, .inl g3)), (f4, .inl (z4, 4, .inl g4)), (jK, .inr (5, [.ref k0, .ref k1])), (k0, .inl (cK, 8, .inl l0)), (k1, .inl (cO, 32, .inl l1)), (hN, .inr (3, [.ref o0, .ref o1, .ref o2, .ref o3, .ref o4, .int (nI (kn))])), (o0, .inl (y0, 20, .inl q0)), (o1, .inl (y1, 20, .inl q1)), (o2, .inl (y2, 20, .inl q2)), (o3, .inl (y3, 20, .inl q3)), (o4, .inl (y4, 20, .inl q4)), (jA, .inr (0, [.ref i0, .ref i1, .ref i2, .ref i3, .int (nI (ka))])), (i0, .inl (x0, 6, .inl t0)), (i1, .inl (x1, 6, .inl t1)), (i2, .inl (x2, 6, .inl t2)), (i3, .inl (x3, 6, .inl t3))] s.heap.size = A at hD hX ⊢
  have hA : ∀ q : Nat, s.heap.size ≤ q → A q := fun q h => by rw [← hAe]; exact Or.inr h
  have hS : va_S A s.heap s.heap [] := va_S.rf
  have hP : va_P (dC, dI) vwCl [(jX, .inr (9, [.ref jT, .ref jR, .ref jK, .ref jL, .ref jU, .ref hF, .ref jC, .ref hN, .ref jA, .ref sd])), (jC, .inr (1, [.ref hF, .ref jK, .ref d2, .ref d3, .ref d4, .ref d5, .ref d6, .ref d7, .ref d8, .ref d9, .ref d10, .ref d11, .ref d12, .ref d13, lw, .long dr, .int pr, .int mo, .int ho])), (d2, .inl (w2, 10, .inl e2)), (d3, .inl (w3, 10, .inl e3)), (d4, .inl (w4, 10, .inl e4)), (d5, .inl (w5, 10, .inl e5)), (d6, .inl (w6, 10, .inl e6)), (d7, .inl (w7, 10, .inl e7)), (d8, .inl (w8, 10, .inl e8)), (d9, .inl (w9, 10, .inl e9)), (d10, .inl (w10, 4, .inl e10)), (d11, .inl (w11, 4, .inl e11)), (d12, .inl (w12, 4, .inl e12)), (d13, .inl (w13, 9, .inr (.inl e13))), (hF, .inr (2, [.ref f0, .ref f1, .ref f2, .ref f3, .ref f4, .int (nI (sv)), .int (nI (ks)), .int (nI (kw))])), (f0, .inl (z0, 10, .inl g0)), (f1, .inl (z1, 10, .inl g1)), (f2, .inl (z2, 10, .inl g2)), (f3, .inl (z3, 10, .inl g3)), (f4, .inl (z4, 4, .inl g4)), (jK, .inr (5, [.ref k0, .ref k1])), (k0, .inl (cK, 8, .inl l0)), (k1, .inl (cO, 32, .inl l1)), (hN, .inr (3, [.ref o0, .ref o1, .ref o2, .ref o3, .ref o4, .int (nI (kn))])), (o0, .inl (y0, 20, .inl q0)), (o1, .inl (y1, 20, .inl q1)), (o2, .inl (y2, 20, .inl q2)), (o3, .inl (y3, 20, .inl q3)), (o4, .inl (y4, 20, .inl q4)), (jA, .inr (0, [.ref i0, .ref i1, .ref i2, .ref i3, .int (nI (ka))])), (i0, .inl (x0, 6, .inl t0)), (i1, .inl (x1, 6, .inl t1)), (i2, .inl (x2, 6, .inl t2)), (i3, .inl (x3, 6, .inl t3))] s.heap := hP
  have hl := lv_entry ([.ref jX, .ref ru, .long p1, .int p2]) (n := 9) (Nat.le_of_ble_eq_true rfl)
  rw [lg_entry_eq]
  generalize (lg_sl ([.ref jX, .ref ru, .long p1, .int p2]) ++ List.replicate (9 - (lg_sl ([.ref jX, .ref ru, .long p1, .int p2])).length) Slot.unset).toArray = ls at hl ⊢
  have hl : lv_has ls 9 [(0, .ref jX), (1, .ref ru), (2, .long p1), (4, .int p2)] := hl
  refine kQ (fun Q hQ => ?_)
  refine lv_aload_n hx hb dX9_leastHelp_0 rfl (lv_at hl 0 rfl) ?_
  refine va_get (D := (dC, dI)) (ci := 9) (v := .ref jA) (C := RX9) (T := TX9) (N := 10) hx hb hts (fun _ h => List.mem_cons_of_mem _ (List.mem_append_right _ (List.mem_append_left _ h))) hown hK hP 0 rfl rfl 8 kc_l_8_10 (hts (.fieldLink RX9 70 "NotEnded" "acts" "LNotEnded$Acts;") (List.mem_cons_of_mem _ (List.mem_append_left _ (List.mem_of_getElem? (i := 0) rfl)))) (fun _ h9 => h9) rfl dX9_leastHelp_1 ?_
  refine lv_iload hx hb dX9_leastHelp_4 (lv_at hl 3 rfl) ?_
  have hPc := hP.sb (ws2 := [(jA, .inr (0, [.ref i0, .ref i1, .ref i2, .ref i3, .int (nI (ka))])), (i0, .inl (x0, 6, .inl t0)), (i1, .inl (x1, 6, .inl t1)), (i2, .inl (x2, 6, .inl t2)), (i3, .inl (x3, 6, .inl t3))]) [29, 30, 31, 32, 33] rfl
  have hKc := hK.sb (tys2 := [(x0, .int), (x1, .int), (x2, .int), (x3, .int)]) [24, 25, 26, 27] rfl
  refine vp_callSi (va_runV (As := [.int p2]) (rest := []) ⟨hx, hb, hml, hown, hts⟩ (s_actsFor0n l dC dI jA i0 i1 i2 i3 x0 x1 x2 x3 t0 t1 t2 t3 ka hka p2) (cwV 1 hts (kG (List.forall_mem_cons.mpr ⟨(List.mem_cons_of_mem _ (List.mem_append_left _ (List.mem_of_getElem? (i := 4) rfl))), (List.forall_mem_cons.mpr ⟨(List.mem_cons_of_mem _ (List.mem_append_left _ (List.mem_of_getElem? (i := 3) rfl))), (List.forall_mem_cons.mpr ⟨(List.mem_cons_of_mem _ (List.mem_append_left _ (List.mem_of_getElem? (i := 2) rfl))), (List.forall_mem_cons.mpr ⟨(List.mem_cons_of_mem _ (List.mem_append_left _ (List.mem_of_getElem? (i := 1) rfl))), (fun _ h => absurd h List.not_mem_nil)⟩)⟩)⟩)⟩) (kGV _ _ _ _) (fun _ h => List.mem_cons_of_mem _ (List.mem_append_right _ (List.mem_append_right _ (List.mem_append_left _ h)))) gw_s_actsFor0n) rfl rfl rfl ⟨rfl, hd_X0_actsFor⟩ ⟨(Nat.le_of_ble_eq_true rfl), (Nat.le_of_ble_eq_true rfl)⟩) (kR_V kT_blind kT_give (va_recv hKc hPc (ci := 0) (q0 := 0) rfl rfl) hPc hKc) rfl rfl hl.1 rfl (lv_room (Nat.le_of_ble_eq_true rfl)) dX9_leastHelp_6 ⟨(Nat.le_of_ble_eq_true rfl), (Nat.le_of_ble_eq_true rfl)⟩).run (fun r_1 hw => ?_)
  have hw_2 := hw
  obtain ⟨j_3, hj_3, ej_3⟩ := hw_2
  subst ej_3
  refine lv_istore hx hb dX9_leastHelp_9 hl kc_l_5_9 (kTo [(5, .int (nI (j_3))), (0, .ref jX), (1, .ref ru), (2, .long p1), (4, .int p2)]) (fun ls hl => ?_)
  refine lv_iconst (v := (-1)) hx hb dX9_leastHelp_11 kc_i_m1 ?_
  refine lv_istore hx hb dX9_leastHelp_12 hl kc_l_6_9 (kTo [(6, .int (-1)), (5, .int (nI (j_3))), (0, .ref jX), (1, .ref ru), (2, .long p1), (4, .int p2)]) (fun ls hl => ?_)
  refine lv_iconst (v := 0) hx hb dX9_leastHelp_14 kc_i_0 ?_
  refine lv_istore hx hb dX9_leastHelp_15 hl kc_l_7_9 (kTo [(7, .int 0), (6, .int (-1)), (5, .int (nI (j_3))), (0, .ref jX), (1, .ref ru), (2, .long p1), (4, .int p2)]) (fun ls hl => ?_)
  have lp_k_4 : ∀ (n9 : Nat) (i : Nat) (xb : Int32) (le2 : Nat → Int32) (le3 : Nat → Int32) (le4 : Nat → Int32) (le5 : Nat → Int32) (le6 : Nat → Int32) (le7 : Nat → Int32) (le8 : Nat → Int32) (le9 : Nat → Int32) (le10 : Nat → Int32) (le11 : Nat → Int32) (le12 : Nat → Int32) (le13 : Nat → Int64) (ll0 : Nat → Int32) (ll1 : Nat → Int32) (ldr : Int64) (lpr : Int32) (lmo : Int32) (lho : Int32) (llw : Value) (ivk_4_0 : i ≤ 64) (H : Heap) (locs : List Loc) (_ : va_P (dC, dI) vwCl [(jX, .inr (9, [.ref jT, .ref jR, .ref jK, .ref jL, .ref jU, .ref hF, .ref jC, .ref hN, .ref jA, .ref sd])), (jC, .inr (1, [.ref hF, .ref jK, .ref d2, .ref d3, .ref d4, .ref d5, .ref d6, .ref d7, .ref d8, .ref d9, .ref d10, .ref d11, .ref d12, .ref d13, llw, .long ldr, .int lpr, .int lmo, .int lho])), (d2, .inl (w2, 10, .inl le2)), (d3, .inl (w3, 10, .inl le3)), (d4, .inl (w4, 10, .inl le4)), (d5, .inl (w5, 10, .inl le5)), (d6, .inl (w6, 10, .inl le6)), (d7, .inl (w7, 10, .inl le7)), (d8, .inl (w8, 10, .inl le8)), (d9, .inl (w9, 10, .inl le9)), (d10, .inl (w10, 4, .inl le10)), (d11, .inl (w11, 4, .inl le11)), (d12, .inl (w12, 4, .inl le12)), (d13, .inl (w13, 9, .inr (.inl le13))), (hF, .inr (2, [.ref f0, .ref f1, .ref f2, .ref f3, .ref f4, .int (nI (sv)), .int (nI (ks)), .int (nI (kw))])), (f0, .inl (z0, 10, .inl g0)), (f1, .inl (z1, 10, .inl g1)), (f2, .inl (z2, 10, .inl g2)), (f3, .inl (z3, 10, .inl g3)), (f4, .inl (z4, 4, .inl g4)), (jK, .inr (5, [.ref k0, .ref k1])), (k0, .inl (cK, 8, .inl ll0)), (k1, .inl (cO, 32, .inl ll1)), (hN, .inr (3, [.ref o0, .ref o1, .ref o2, .ref o3, .ref o4, .int (nI (kn))])), (o0, .inl (y0, 20, .inl q0)), (o1, .inl (y1, 20, .inl q1)), (o2, .inl (y2, 20, .inl q2)), (o3, .inl (y3, 20, .inl q3)), (o4, .inl (y4, 20, .inl q4)), (jA, .inr (0, [.ref i0, .ref i1, .ref i2, .ref i3, .int (nI (ka))])), (i0, .inl (x0, 6, .inl t0)), (i1, .inl (x1, 6, .inl t1)), (i2, .inl (x2, 6, .inl t2)), (i3, .inl (x3, 6, .inl t3))] H) (_ : va_D A [(jX, .inr (9, [.ref jT, .ref jR, .ref jK, .ref jL, .ref jU, .ref hF, .ref jC, .ref hN, .ref jA, .ref sd])), (jC, .inr (1, [.ref hF, .ref jK, .ref d2, .ref d3, .ref d4, .ref d5, .ref d6, .ref d7, .ref d8, .ref d9, .ref d10, .ref d11, .ref d12, .ref d13, llw, .long ldr, .int lpr, .int lmo, .int lho])), (d2, .inl (w2, 10, .inl le2)), (d3, .inl (w3, 10, .inl le3)), (d4, .inl (w4, 10, .inl le4)), (d5, .inl (w5, 10, .inl le5)), (d6, .inl (w6, 10, .inl le6)), (d7, .inl (w7, 10, .inl le7)), (d8, .inl (w8, 10, .inl le8)), (d9, .inl (w9, 10, .inl le9)), (d10, .inl (w10, 4, .inl le10)), (d11, .inl (w11, 4, .inl le11)), (d12, .inl (w12, 4, .inl le12)), (d13, .inl (w13, 9, .inr (.inl le13))), (hF, .inr (2, [.ref f0, .ref f1, .ref f2, .ref f3, .ref f4, .int (nI (sv)), .int (nI (ks)), .int (nI (kw))])), (f0, .inl (z0, 10, .inl g0)), (f1, .inl (z1, 10, .inl g1)), (f2, .inl (z2, 10, .inl g2)), (f3, .inl (z3, 10, .inl g3)), (f4, .inl (z4, 4, .inl g4)), (jK, .inr (5, [.ref k0, .ref k1])), (k0, .inl (cK, 8, .inl ll0)), (k1, .inl (cO, 32, .inl ll1)), (hN, .inr (3, [.ref o0, .ref o1, .ref o2, .ref o3, .ref o4, .int (nI (kn))])), (o0, .inl (y0, 20, .inl q0)), (o1, .inl (y1, 20, .inl q1)), (o2, .inl (y2, 20, .inl q2)), (o3, .inl (y3, 20, .inl q3)), (o4, .inl (y4, 20, .inl q4)), (jA, .inr (0, [.ref i0, .ref i1, .ref i2, .ref i3, .int (nI (ka))])), (i0, .inl (x0, 6, .inl t0)), (i1, .inl (x1, 6, .inl t1)), (i2, .inl (x2, 6, .inl t2)), (i3, .inl (x3, 6, .inl t3))]) (_ : va_S A s.heap H locs) (ls : Array Slot) (_ : lv_has ls 9 [(7, .int (nI (i))), (6, .int xb), (5, .int (nI (j_3))), (0, .ref jX), (1, .ref ru), (2, .long p1), (4, .int p2)]) (_ : 64 - i < n9), W p l e (headSpec w_s_leastHelp9 ({ frames := 8, cells := 0, slots := 0, locals := 480 })).room s m (#[.ref jX, .ref ru, .long p1, .int p2] : Array Value) below meth c H locs 0 0 Q (F0 m 17 ls []) := by
    intro n9
    induction n9 with
    | zero => intro i xb le2 le3 le4 le5 le6 le7 le8 le9 le10 le11 le12 le13 ll0 ll1 ldr lpr lmo lho llw ivk_4_0 H locs hP hD hS ls hl hm9; exact absurd hm9 (Nat.not_lt_zero _)
    | succ n9 ih_k_4 =>
      intro i xb le2 le3 le4 le5 le6 le7 le8 le9 le10 le11 le12 le13 ll0 ll1 ldr lpr lmo lho llw ivk_4_0 H locs hP hD hS ls hl hm9
      refine lv_iload hx hb dX9_leastHelp_17 (lv_at hl 0 rfl) ?_
      refine lv_iload hx hb dX9_leastHelp_19 (lv_at hl 2 rfl) ?_
      refine lv_icmp_gt (tgt := 89) hx hb dX9_leastHelp_21 kc_t_21_68 (fun c_5 => ?_) (fun c_5 => ?_)
      · have bd_7 : j_3 < 2147483648 := by omega
        have bd_8 : i < 2147483648 := by omega
        have hn_6 := klt (a := j_3) (b := i) bd_7 bd_8 c_5
        refine lv_iload hx hb dX9_leastHelp_89 (lv_at hl 1 rfl) ?_
        have hP9 := hP
        have hD9 := hD
        have hK9 := hK
        rw [hQ]
        exact W.iret (v := xb) hx hb hr (fun t ht hW => ⟨⟨xb, (le2, le3, le4, le5, le6, le7, le8, le9, le10, le11, le12, le13, ll0, ll1, lpr, lmo, lho, ldr, (llw : Value)), rfl, trivial,  by rw [ht]; exact hP9, va_K.moved hW.alike hK9, hD9⟩, hS.F ht⟩) hS.2.2 dX9_leastHelp_91
      · have bd_10 : j_3 < 2147483648 := by omega
        have bd_11 : i < 2147483648 := by omega
        have hn_9 := knlt (a := j_3) (b := i) bd_10 bd_11 c_5
        refine lv_iload hx hb dX9_leastHelp_24 (lv_at hl 0 rfl) ?_
        refine lv_iload hx hb dX9_leastHelp_26 (lv_at hl 2 rfl) ?_
        refine lv_iconst (v := (-1)) hx hb dX9_leastHelp_28 kc_i_m1 ?_
        refine lv_ixor hx hb dX9_leastHelp_29 ?_
        refine lv_topi (fun x_12 ex_12 => ?_)
        refine lv_iand hx hb dX9_leastHelp_30 ?_
        refine lv_topi (fun x_13 ex_13 => ?_)
        refine lv_if_ne (tgt := 58) hx hb dX9_leastHelp_31 kc_t_31_27 (fun c_14 => ?_) (fun c_14 => ?_)
        · refine lv_iconst (v := 0) hx hb dX9_leastHelp_58 kc_i_0 ?_
          refine lv_istore hx hb dX9_leastHelp_59 hl kc_l_8_9 (kTo [(8, .int 0), (7, .int (nI (i))), (6, .int xb), (5, .int (nI (j_3))), (0, .ref jX), (1, .ref ru), (2, .long p1), (4, .int p2)]) (fun ls hl => ?_)
          refine lv_iload hx hb dX9_leastHelp_61 (lv_at hl 0 rfl) ?_
          refine lv_if_eq (tgt := 83) hx hb dX9_leastHelp_63 kc_t_63_20 (fun c_15 => ?_) (fun c_15 => absurd (by decide) c_15)
          refine lv_iinc (v := nI (i + 1)) hx hb dX9_leastHelp_83 hl (k := 1) rfl (kInc _ 1) kc_l_7_9 (kTo [(7, .int (nI (i + 1))), (8, .int 0), (6, .int xb), (5, .int (nI (j_3))), (0, .ref jX), (1, .ref ru), (2, .long p1), (4, .int p2)]) (fun ls hl => ?_)
          refine lv_goto (tgt := 17) hx hb dX9_leastHelp_86 kc_t_86_m69 ?_
          exact ih_k_4 (i + 1) xb le2 le3 le4 le5 le6 le7 le8 le9 le10 le11 le12 le13 ll0 ll1 ldr lpr lmo lho (llw : Value) (by omega) _ _ hP hD hS ls (lv_sub hl [0, 2, 3, 4, 5, 6, 7] rfl) (by omega)
        · refine lv_iload hx hb dX9_leastHelp_34 (lv_at hl 1 rfl) ?_
          refine lv_iconst (v := (-1)) hx hb dX9_leastHelp_36 kc_i_m1 ?_
          refine lv_icmp_eq (tgt := 54) hx hb dX9_leastHelp_37 kc_t_37_17 (fun c_16 => ?_) (fun c_16 => ?_)
          · refine lv_iconst (v := 1) hx hb dX9_leastHelp_54 kc_i_1 ?_
            refine lv_goto (tgt := 59) hx hb dX9_leastHelp_55 kc_t_55_4 ?_
            refine lv_istore hx hb dX9_leastHelp_59 hl kc_l_8_9 (kTo [(8, .int 1), (7, .int (nI (i))), (6, .int xb), (5, .int (nI (j_3))), (0, .ref jX), (1, .ref ru), (2, .long p1), (4, .int p2)]) (fun ls hl => ?_)
            refine lv_iload hx hb dX9_leastHelp_61 (lv_at hl 0 rfl) ?_
            refine lv_if_eq (tgt := 83) hx hb dX9_leastHelp_63 kc_t_63_20 (fun c_17 => absurd c_17 (by decide)) (fun c_17 => ?_)
            refine lv_aload_n hx hb dX9_leastHelp_66 rfl (lv_at hl 4 rfl) ?_
            refine lv_aload_n hx hb dX9_leastHelp_67 rfl (lv_at hl 5 rfl) ?_
            refine lv_lload_n hx hb dX9_leastHelp_68 rfl (lv_at hl 6 rfl) ?_
            refine lv_iload hx hb dX9_leastHelp_69 (lv_at hl 7 rfl) ?_
            refine lv_iload hx hb dX9_leastHelp_71 (lv_at hl 1 rfl) ?_
            have hCu := kCut (wc := [(jX, .inr (9, [.ref jT, .ref jR, .ref jK, .ref jL, .ref jU, .ref hF, .ref jC, .ref hN, .ref jA, .ref sd])), (jC, .inr (1, [.ref hF, .ref jK, .ref d2, .ref d3, .ref d4, .ref d5, .ref d6, .ref d7, .ref d8, .ref d9, .ref d10, .ref d11, .ref d12, .ref d13, llw, .long ldr, .int lpr, .int lmo, .int lho])), (d2, .inl (w2, 10, .inl le2)), (d3, .inl (w3, 10, .inl le3)), (d4, .inl (w4, 10, .inl le4)), (d5, .inl (w5, 10, .inl le5)), (d6, .inl (w6, 10, .inl le6)), (d7, .inl (w7, 10, .inl le7)), (d8, .inl (w8, 10, .inl le8)), (d9, .inl (w9, 10, .inl le9)), (d10, .inl (w10, 4, .inl le10)), (d11, .inl (w11, 4, .inl le11)), (d12, .inl (w12, 4, .inl le12)), (d13, .inl (w13, 9, .inr (.inl le13))), (hF, .inr (2, [.ref f0, .ref f1, .ref f2, .ref f3, .ref f4, .int (nI (sv)), .int (nI (ks)), .int (nI (kw))])), (f0, .inl (z0, 10, .inl g0)), (f1, .inl (z1, 10, .inl g1)), (f2, .inl (z2, 10, .inl g2)), (f3, .inl (z3, 10, .inl g3)), (f4, .inl (z4, 4, .inl g4)), (jK, .inr (5, [.ref k0, .ref k1])), (k0, .inl (cK, 8, .inl ll0)), (k1, .inl (cO, 32, .inl ll1)), (hN, .inr (3, [.ref o0, .ref o1, .ref o2, .ref o3, .ref o4, .int (nI (kn))])), (o0, .inl (y0, 20, .inl q0)), (o1, .inl (y1, 20, .inl q1)), (o2, .inl (y2, 20, .inl q2)), (o3, .inl (y3, 20, .inl q3)), (o4, .inl (y4, 20, .inl q4)), (jA, .inr (0, [.ref i0, .ref i1, .ref i2, .ref i3, .int (nI (ka))])), (i0, .inl (x0, 6, .inl t0)), (i1, .inl (x1, 6, .inl t1)), (i2, .inl (x2, 6, .inl t2)), (i3, .inl (x3, 6, .inl t3))]) hP hD hS hA [0, 1, 2, 3, 4, 5, 6, 7, 8, 9, 10, 11, 12, 13, 14, 15, 16, 17, 18, 19, 20, 21, 22, 23, 24, 25, 26, 27, 28, 29, 30, 31, 32, 33] rfl kc_nd_448 rfl
            have hPc := hCu.1
            have hDc := hCu.2.1
            have hFc := hCu.2.2
            have hKc := hK.sb (tys2 := [(w2, .int), (w3, .int), (w4, .int), (w5, .int), (w6, .int), (w7, .int), (w8, .int), (w9, .int), (w10, .int), (w11, .int), (w12, .int), (w13, .long), (z0, .int), (z1, .int), (z2, .int), (z3, .int), (z4, .int), (cK, .int), (cO, .int), (y0, .int), (y1, .int), (y2, .int), (y3, .int), (y4, .int), (x0, .int), (x1, .int), (x2, .int), (x3, .int), (cS, .int), (cc, .int)]) [0, 1, 2, 3, 4, 5, 6, 7, 8, 9, 10, 11, 12, 13, 14, 15, 16, 17, 18, 19, 20, 21, 22, 23, 24, 25, 26, 27, 28, 29] rfl
            refine va_calli (va_runV (As := [.ref ru, .long p1, .int p2, .int (nI (i))]) (rest := []) ⟨hx, hb, hml, hown, hts⟩ (s_givesUp9 l dC dI jX jT jR jL jU hN jA sd jC d2 d3 d4 d5 d6 d7 d8 d9 d10 d11 d12 d13 w2 w3 w4 w5 w6 w7 w8 w9 w10 w11 w12 w13 le2 le3 le4 le5 le6 le7 le8 le9 le10 le11 le12 le13 ldr lpr lmo lho hF f0 f1 f2 f3 f4 z0 z1 z2 z3 z4 g0 g1 g2 g3 g4 (nI (sv)) ks kw hks hkw jK k0 k1 cK cO ll0 ll1 ru sA cl cS cc nS nC gS gC hnS hnC o0 o1 o2 o3 o4 y0 y1 y2 y3 y4 q0 q1 q2 q3 q4 kn hkn i0 i1 i2 i3 x0 x1 x2 x3 t0 t1 t2 t3 ka hka (llw : Value) p1 p2 (nI (i)) H.size) (cwV 4 hts (kG (List.forall_mem_cons.mpr ⟨(List.mem_cons_of_mem _ (List.mem_append_left _ (List.mem_of_getElem? (i := 8) rfl))), (List.forall_mem_cons.mpr ⟨(List.mem_cons_of_mem _ (List.mem_append_left _ (List.mem_of_getElem? (i := 7) rfl))), (List.forall_mem_cons.mpr ⟨(List.mem_cons_of_mem _ (List.mem_append_left _ (List.mem_of_getElem? (i := 6) rfl))), (List.forall_mem_cons.mpr ⟨(List.mem_cons_of_mem _ (List.mem_append_left _ (List.mem_of_getElem? (i := 5) rfl))), (fun _ h => absurd h List.not_mem_nil)⟩)⟩)⟩)⟩) (kGV _ _ _ _) (fun _ h => List.mem_cons_of_mem _ (List.mem_append_right _ (List.mem_append_right _ (List.mem_append_right _ (List.mem_append_left _ h))))) gw_s_givesUp9) rfl rfl rfl ⟨rfl, hd_X9_givesUpBy⟩ ⟨(Nat.le_of_ble_eq_true rfl), (Nat.le_of_ble_eq_true rfl)⟩) (kW_V kNF_blind (kNF_give hX hS hFc) (va_recv hKc hPc (ci := 9) (q0 := 0) rfl rfl) hPc hKc hDc) rfl rfl hl.1 rfl (lv_room (Nat.le_of_ble_eq_true rfl)) dX9_leastHelp_73 ⟨(Nat.le_of_ble_eq_true rfl), (Nat.le_of_ble_eq_true rfl)⟩) hS (fun q _ h => hFc q h) hFc (fun r_18 => kU19 (fun E2_19 E3_20 E4_21 E5_22 E6_23 E7_24 E8_25 E9_26 E10_27 E11_28 E12_29 E13_30 L0_31 L1_32 Pr_33 Mo_34 Ho_35 Dr_36 Lw_37 t H_38 locs ht hvm hw hB hz1 hk1 hS => ?_))
            try dsimp only at hw
            have hPD : kPD dC dI A [(jX, .inr (9, [.ref jT, .ref jR, .ref jK, .ref jL, .ref jU, .ref hF, .ref jC, .ref hN, .ref jA, .ref sd])), (jC, .inr (1, [.ref hF, .ref jK, .ref d2, .ref d3, .ref d4, .ref d5, .ref d6, .ref d7, .ref d8, .ref d9, .ref d10, .ref d11, .ref d12, .ref d13, Lw_37, .long Dr_36, .int Pr_33, .int Mo_34, .int Ho_35])), (d2, .inl (w2, 10, .inl E2_19)), (d3, .inl (w3, 10, .inl E3_20)), (d4, .inl (w4, 10, .inl E4_21)), (d5, .inl (w5, 10, .inl E5_22)), (d6, .inl (w6, 10, .inl E6_23)), (d7, .inl (w7, 10, .inl E7_24)), (d8, .inl (w8, 10, .inl E8_25)), (d9, .inl (w9, 10, .inl E9_26)), (d10, .inl (w10, 4, .inl E10_27)), (d11, .inl (w11, 4, .inl E11_28)), (d12, .inl (w12, 4, .inl E12_29)), (d13, .inl (w13, 9, .inr (.inl E13_30))), (hF, .inr (2, [.ref f0, .ref f1, .ref f2, .ref f3, .ref f4, .int (nI (sv)), .int (nI (ks)), .int (nI (kw))])), (f0, .inl (z0, 10, .inl g0)), (f1, .inl (z1, 10, .inl g1)), (f2, .inl (z2, 10, .inl g2)), (f3, .inl (z3, 10, .inl g3)), (f4, .inl (z4, 4, .inl g4)), (jK, .inr (5, [.ref k0, .ref k1])), (k0, .inl (cK, 8, .inl L0_31)), (k1, .inl (cO, 32, .inl L1_32)), (hN, .inr (3, [.ref o0, .ref o1, .ref o2, .ref o3, .ref o4, .int (nI (kn))])), (o0, .inl (y0, 20, .inl q0)), (o1, .inl (y1, 20, .inl q1)), (o2, .inl (y2, 20, .inl q2)), (o3, .inl (y3, 20, .inl q3)), (o4, .inl (y4, 20, .inl q4)), (jA, .inr (0, [.ref i0, .ref i1, .ref i2, .ref i3, .int (nI (ka))])), (i0, .inl (x0, 6, .inl t0)), (i1, .inl (x1, 6, .inl t1)), (i2, .inl (x2, 6, .inl t2)), (i3, .inl (x3, 6, .inl t3))] H_38 := kJoinX hP hD [0, 1, 2, 3, 4, 5, 6, 7, 8, 9, 10, 11, 12, 13, 14, 15, 16, 17, 18, 19, 20, 21, 22, 23, 24, 25, 26, 27, 28, 29, 30, 31, 32, 33] rfl hk1 hFc hB.1 ht hB.2.2 rfl [some 0, some 1, some 2, some 3, some 4, some 5, some 6, some 7, some 8, some 9, some 10, some 11, some 12, some 13, some 14, some 15, some 16, some 17, some 18, some 19, some 20, some 21, some 22, some 23, some 24, some 25, some 26, some 27, some 28, some 29, some 30, some 31, some 32, some 33] rfl rfl
            have hP := hPD.1
            have hD := hPD.2
            have hw_39 := hw
            refine lv_if_eq (tgt := 83) hx hb dX9_leastHelp_76 kc_t_76_7 (fun c_40 => ?_) (fun c_40 => ?_)
            · refine lv_iinc (v := nI (i + 1)) hx hb dX9_leastHelp_83 hl (k := 1) rfl (kInc _ 1) kc_l_7_9 (kTo [(7, .int (nI (i + 1))), (8, .int 1), (6, .int xb), (5, .int (nI (j_3))), (0, .ref jX), (1, .ref ru), (2, .long p1), (4, .int p2)]) (fun ls hl => ?_)
              refine lv_goto (tgt := 17) hx hb dX9_leastHelp_86 kc_t_86_m69 ?_
              exact ih_k_4 (i + 1) xb E2_19 E3_20 E4_21 E5_22 E6_23 E7_24 E8_25 E9_26 E10_27 E11_28 E12_29 E13_30 L0_31 L1_32 Dr_36 Pr_33 Mo_34 Ho_35 (Lw_37 : Value) (by omega) _ _ hP hD hS ls (lv_sub hl [0, 2, 3, 4, 5, 6, 7] rfl) (by omega)
            · refine lv_iload hx hb dX9_leastHelp_79 (lv_at hl 1 rfl) ?_
              refine lv_istore hx hb dX9_leastHelp_81 hl kc_l_6_9 (kTo [(6, .int (nI (i))), (8, .int 1), (7, .int (nI (i))), (5, .int (nI (j_3))), (0, .ref jX), (1, .ref ru), (2, .long p1), (4, .int p2)]) (fun ls hl => ?_)
              refine lv_iinc (v := nI (i + 1)) hx hb dX9_leastHelp_83 hl (k := 2) rfl (kInc _ 1) kc_l_7_9 (kTo [(7, .int (nI (i + 1))), (6, .int (nI (i))), (8, .int 1), (5, .int (nI (j_3))), (0, .ref jX), (1, .ref ru), (2, .long p1), (4, .int p2)]) (fun ls hl => ?_)
              refine lv_goto (tgt := 17) hx hb dX9_leastHelp_86 kc_t_86_m69 ?_
              exact ih_k_4 (i + 1) (nI (i)) E2_19 E3_20 E4_21 E5_22 E6_23 E7_24 E8_25 E9_26 E10_27 E11_28 E12_29 E13_30 L0_31 L1_32 Dr_36 Pr_33 Mo_34 Ho_35 (Lw_37 : Value) (by omega) _ _ hP hD hS ls (lv_sub hl [0, 1, 3, 4, 5, 6, 7] rfl) (by omega)
          · refine lv_aload_n hx hb dX9_leastHelp_40 rfl (lv_at hl 3 rfl) ?_
            refine va_get (D := (dC, dI)) (ci := 9) (v := .ref jA) (C := RX9) (T := TX9) (N := 10) hx hb hts (fun _ h => List.mem_cons_of_mem _ (List.mem_append_right _ (List.mem_append_left _ h))) hown hK hP 0 rfl rfl 8 kc_l_8_10 (hts (.fieldLink RX9 70 "NotEnded" "acts" "LNotEnded$Acts;") (List.mem_cons_of_mem _ (List.mem_append_left _ (List.mem_of_getElem? (i := 0) rfl)))) (fun _ h9 => h9) rfl dX9_leastHelp_41 ?_
            refine lv_iload hx hb dX9_leastHelp_44 (lv_at hl 0 rfl) ?_
            refine lv_iload hx hb dX9_leastHelp_46 (lv_at hl 1 rfl) ?_
            have hPc := hP.sb (ws2 := [(jA, .inr (0, [.ref i0, .ref i1, .ref i2, .ref i3, .int (nI (ka))])), (i0, .inl (x0, 6, .inl t0)), (i1, .inl (x1, 6, .inl t1)), (i2, .inl (x2, 6, .inl t2)), (i3, .inl (x3, 6, .inl t3))]) [29, 30, 31, 32, 33] rfl
            have hKc := hK.sb (tys2 := [(x0, .int), (x1, .int), (x2, .int), (x3, .int)]) [24, 25, 26, 27] rfl
            refine vp_callSi (va_runV (As := [.int (nI (i)), .int xb]) (rest := []) ⟨hx, hb, hml, hown, hts⟩ (s_isLess0 l dC dI jA i0 i1 i2 i3 x0 x1 x2 x3 t0 t1 t2 t3 ka hka (nI (i)) xb) (cwV 2 hts (kG (List.forall_mem_cons.mpr ⟨(List.mem_cons_of_mem _ (List.mem_append_left _ (List.mem_of_getElem? (i := 11) rfl))), (List.forall_mem_cons.mpr ⟨(List.mem_cons_of_mem _ (List.mem_append_left _ (List.mem_of_getElem? (i := 10) rfl))), (List.forall_mem_cons.mpr ⟨(List.mem_cons_of_mem _ (List.mem_append_left _ (List.mem_of_getElem? (i := 9) rfl))), (List.forall_mem_cons.mpr ⟨(List.mem_cons_of_mem _ (List.mem_append_left _ (List.mem_of_getElem? (i := 1) rfl))), (fun _ h => absurd h List.not_mem_nil)⟩)⟩)⟩)⟩) (kGV _ _ _ _) (fun _ h => List.mem_cons_of_mem _ (List.mem_append_right _ (List.mem_append_right _ (List.mem_append_right _ (List.mem_append_right _ h))))) gw_s_isLess0) rfl rfl rfl ⟨rfl, hd_X0_isLess⟩ ⟨(Nat.le_of_ble_eq_true rfl), (Nat.le_of_ble_eq_true rfl)⟩) (kR_V kNL_blind (kNL_give hX.2) (va_recv hKc hPc (ci := 0) (q0 := 0) rfl rfl) hPc hKc) rfl rfl hl.1 rfl (lv_room (Nat.le_of_ble_eq_true rfl)) dX9_leastHelp_48 ⟨(Nat.le_of_ble_eq_true rfl), (Nat.le_of_ble_eq_true rfl)⟩).run (fun r_41 hw => ?_)
            have hw_42 := hw
            refine lv_if_eq (tgt := 58) hx hb dX9_leastHelp_51 kc_t_51_7 (fun c_43 => ?_) (fun c_43 => ?_)
            · refine lv_iconst (v := 0) hx hb dX9_leastHelp_58 kc_i_0 ?_
              refine lv_istore hx hb dX9_leastHelp_59 hl kc_l_8_9 (kTo [(8, .int 0), (7, .int (nI (i))), (6, .int xb), (5, .int (nI (j_3))), (0, .ref jX), (1, .ref ru), (2, .long p1), (4, .int p2)]) (fun ls hl => ?_)
              refine lv_iload hx hb dX9_leastHelp_61 (lv_at hl 0 rfl) ?_
              refine lv_if_eq (tgt := 83) hx hb dX9_leastHelp_63 kc_t_63_20 (fun c_44 => ?_) (fun c_44 => absurd (by decide) c_44)
              refine lv_iinc (v := nI (i + 1)) hx hb dX9_leastHelp_83 hl (k := 1) rfl (kInc _ 1) kc_l_7_9 (kTo [(7, .int (nI (i + 1))), (8, .int 0), (6, .int xb), (5, .int (nI (j_3))), (0, .ref jX), (1, .ref ru), (2, .long p1), (4, .int p2)]) (fun ls hl => ?_)
              refine lv_goto (tgt := 17) hx hb dX9_leastHelp_86 kc_t_86_m69 ?_
              exact ih_k_4 (i + 1) xb le2 le3 le4 le5 le6 le7 le8 le9 le10 le11 le12 le13 ll0 ll1 ldr lpr lmo lho (llw : Value) (by omega) _ _ hP hD hS ls (lv_sub hl [0, 2, 3, 4, 5, 6, 7] rfl) (by omega)
            · refine lv_iconst (v := 1) hx hb dX9_leastHelp_54 kc_i_1 ?_
              refine lv_goto (tgt := 59) hx hb dX9_leastHelp_55 kc_t_55_4 ?_
              refine lv_istore hx hb dX9_leastHelp_59 hl kc_l_8_9 (kTo [(8, .int 1), (7, .int (nI (i))), (6, .int xb), (5, .int (nI (j_3))), (0, .ref jX), (1, .ref ru), (2, .long p1), (4, .int p2)]) (fun ls hl => ?_)
              refine lv_iload hx hb dX9_leastHelp_61 (lv_at hl 0 rfl) ?_
              refine lv_if_eq (tgt := 83) hx hb dX9_leastHelp_63 kc_t_63_20 (fun c_45 => absurd c_45 (by decide)) (fun c_45 => ?_)
              refine lv_aload_n hx hb dX9_leastHelp_66 rfl (lv_at hl 4 rfl) ?_
              refine lv_aload_n hx hb dX9_leastHelp_67 rfl (lv_at hl 5 rfl) ?_
              refine lv_lload_n hx hb dX9_leastHelp_68 rfl (lv_at hl 6 rfl) ?_
              refine lv_iload hx hb dX9_leastHelp_69 (lv_at hl 7 rfl) ?_
              refine lv_iload hx hb dX9_leastHelp_71 (lv_at hl 1 rfl) ?_
              have hCu := kCut (wc := [(jX, .inr (9, [.ref jT, .ref jR, .ref jK, .ref jL, .ref jU, .ref hF, .ref jC, .ref hN, .ref jA, .ref sd])), (jC, .inr (1, [.ref hF, .ref jK, .ref d2, .ref d3, .ref d4, .ref d5, .ref d6, .ref d7, .ref d8, .ref d9, .ref d10, .ref d11, .ref d12, .ref d13, llw, .long ldr, .int lpr, .int lmo, .int lho])), (d2, .inl (w2, 10, .inl le2)), (d3, .inl (w3, 10, .inl le3)), (d4, .inl (w4, 10, .inl le4)), (d5, .inl (w5, 10, .inl le5)), (d6, .inl (w6, 10, .inl le6)), (d7, .inl (w7, 10, .inl le7)), (d8, .inl (w8, 10, .inl le8)), (d9, .inl (w9, 10, .inl le9)), (d10, .inl (w10, 4, .inl le10)), (d11, .inl (w11, 4, .inl le11)), (d12, .inl (w12, 4, .inl le12)), (d13, .inl (w13, 9, .inr (.inl le13))), (hF, .inr (2, [.ref f0, .ref f1, .ref f2, .ref f3, .ref f4, .int (nI (sv)), .int (nI (ks)), .int (nI (kw))])), (f0, .inl (z0, 10, .inl g0)), (f1, .inl (z1, 10, .inl g1)), (f2, .inl (z2, 10, .inl g2)), (f3, .inl (z3, 10, .inl g3)), (f4, .inl (z4, 4, .inl g4)), (jK, .inr (5, [.ref k0, .ref k1])), (k0, .inl (cK, 8, .inl ll0)), (k1, .inl (cO, 32, .inl ll1)), (hN, .inr (3, [.ref o0, .ref o1, .ref o2, .ref o3, .ref o4, .int (nI (kn))])), (o0, .inl (y0, 20, .inl q0)), (o1, .inl (y1, 20, .inl q1)), (o2, .inl (y2, 20, .inl q2)), (o3, .inl (y3, 20, .inl q3)), (o4, .inl (y4, 20, .inl q4)), (jA, .inr (0, [.ref i0, .ref i1, .ref i2, .ref i3, .int (nI (ka))])), (i0, .inl (x0, 6, .inl t0)), (i1, .inl (x1, 6, .inl t1)), (i2, .inl (x2, 6, .inl t2)), (i3, .inl (x3, 6, .inl t3))]) hP hD hS hA [0, 1, 2, 3, 4, 5, 6, 7, 8, 9, 10, 11, 12, 13, 14, 15, 16, 17, 18, 19, 20, 21, 22, 23, 24, 25, 26, 27, 28, 29, 30, 31, 32, 33] rfl kc_nd_448 rfl
              have hPc := hCu.1
              have hDc := hCu.2.1
              have hFc := hCu.2.2
              have hKc := hK.sb (tys2 := [(w2, .int), (w3, .int), (w4, .int), (w5, .int), (w6, .int), (w7, .int), (w8, .int), (w9, .int), (w10, .int), (w11, .int), (w12, .int), (w13, .long), (z0, .int), (z1, .int), (z2, .int), (z3, .int), (z4, .int), (cK, .int), (cO, .int), (y0, .int), (y1, .int), (y2, .int), (y3, .int), (y4, .int), (x0, .int), (x1, .int), (x2, .int), (x3, .int), (cS, .int), (cc, .int)]) [0, 1, 2, 3, 4, 5, 6, 7, 8, 9, 10, 11, 12, 13, 14, 15, 16, 17, 18, 19, 20, 21, 22, 23, 24, 25, 26, 27, 28, 29] rfl
              refine va_calli (va_runV (As := [.ref ru, .long p1, .int p2, .int (nI (i))]) (rest := []) ⟨hx, hb, hml, hown, hts⟩ (s_givesUp9 l dC dI jX jT jR jL jU hN jA sd jC d2 d3 d4 d5 d6 d7 d8 d9 d10 d11 d12 d13 w2 w3 w4 w5 w6 w7 w8 w9 w10 w11 w12 w13 le2 le3 le4 le5 le6 le7 le8 le9 le10 le11 le12 le13 ldr lpr lmo lho hF f0 f1 f2 f3 f4 z0 z1 z2 z3 z4 g0 g1 g2 g3 g4 (nI (sv)) ks kw hks hkw jK k0 k1 cK cO ll0 ll1 ru sA cl cS cc nS nC gS gC hnS hnC o0 o1 o2 o3 o4 y0 y1 y2 y3 y4 q0 q1 q2 q3 q4 kn hkn i0 i1 i2 i3 x0 x1 x2 x3 t0 t1 t2 t3 ka hka (llw : Value) p1 p2 (nI (i)) H.size) (cwV 4 hts (kG (List.forall_mem_cons.mpr ⟨(List.mem_cons_of_mem _ (List.mem_append_left _ (List.mem_of_getElem? (i := 8) rfl))), (List.forall_mem_cons.mpr ⟨(List.mem_cons_of_mem _ (List.mem_append_left _ (List.mem_of_getElem? (i := 7) rfl))), (List.forall_mem_cons.mpr ⟨(List.mem_cons_of_mem _ (List.mem_append_left _ (List.mem_of_getElem? (i := 6) rfl))), (List.forall_mem_cons.mpr ⟨(List.mem_cons_of_mem _ (List.mem_append_left _ (List.mem_of_getElem? (i := 5) rfl))), (fun _ h => absurd h List.not_mem_nil)⟩)⟩)⟩)⟩) (kGV _ _ _ _) (fun _ h => List.mem_cons_of_mem _ (List.mem_append_right _ (List.mem_append_right _ (List.mem_append_right _ (List.mem_append_left _ h))))) gw_s_givesUp9) rfl rfl rfl ⟨rfl, hd_X9_givesUpBy⟩ ⟨(Nat.le_of_ble_eq_true rfl), (Nat.le_of_ble_eq_true rfl)⟩) (kW_V kNF_blind (kNF_give hX hS hFc) (va_recv hKc hPc (ci := 9) (q0 := 0) rfl rfl) hPc hKc hDc) rfl rfl hl.1 rfl (lv_room (Nat.le_of_ble_eq_true rfl)) dX9_leastHelp_73 ⟨(Nat.le_of_ble_eq_true rfl), (Nat.le_of_ble_eq_true rfl)⟩) hS (fun q _ h => hFc q h) hFc (fun r_46 => kU19 (fun E2_47 E3_48 E4_49 E5_50 E6_51 E7_52 E8_53 E9_54 E10_55 E11_56 E12_57 E13_58 L0_59 L1_60 Pr_61 Mo_62 Ho_63 Dr_64 Lw_65 t H_66 locs ht hvm hw hB hz1 hk1 hS => ?_))
              try dsimp only at hw
              have hPD : kPD dC dI A [(jX, .inr (9, [.ref jT, .ref jR, .ref jK, .ref jL, .ref jU, .ref hF, .ref jC, .ref hN, .ref jA, .ref sd])), (jC, .inr (1, [.ref hF, .ref jK, .ref d2, .ref d3, .ref d4, .ref d5, .ref d6, .ref d7, .ref d8, .ref d9, .ref d10, .ref d11, .ref d12, .ref d13, Lw_65, .long Dr_64, .int Pr_61, .int Mo_62, .int Ho_63])), (d2, .inl (w2, 10, .inl E2_47)), (d3, .inl (w3, 10, .inl E3_48)), (d4, .inl (w4, 10, .inl E4_49)), (d5, .inl (w5, 10, .inl E5_50)), (d6, .inl (w6, 10, .inl E6_51)), (d7, .inl (w7, 10, .inl E7_52)), (d8, .inl (w8, 10, .inl E8_53)), (d9, .inl (w9, 10, .inl E9_54)), (d10, .inl (w10, 4, .inl E10_55)), (d11, .inl (w11, 4, .inl E11_56)), (d12, .inl (w12, 4, .inl E12_57)), (d13, .inl (w13, 9, .inr (.inl E13_58))), (hF, .inr (2, [.ref f0, .ref f1, .ref f2, .ref f3, .ref f4, .int (nI (sv)), .int (nI (ks)), .int (nI (kw))])), (f0, .inl (z0, 10, .inl g0)), (f1, .inl (z1, 10, .inl g1)), (f2, .inl (z2, 10, .inl g2)), (f3, .inl (z3, 10, .inl g3)), (f4, .inl (z4, 4, .inl g4)), (jK, .inr (5, [.ref k0, .ref k1])), (k0, .inl (cK, 8, .inl L0_59)), (k1, .inl (cO, 32, .inl L1_60)), (hN, .inr (3, [.ref o0, .ref o1, .ref o2, .ref o3, .ref o4, .int (nI (kn))])), (o0, .inl (y0, 20, .inl q0)), (o1, .inl (y1, 20, .inl q1)), (o2, .inl (y2, 20, .inl q2)), (o3, .inl (y3, 20, .inl q3)), (o4, .inl (y4, 20, .inl q4)), (jA, .inr (0, [.ref i0, .ref i1, .ref i2, .ref i3, .int (nI (ka))])), (i0, .inl (x0, 6, .inl t0)), (i1, .inl (x1, 6, .inl t1)), (i2, .inl (x2, 6, .inl t2)), (i3, .inl (x3, 6, .inl t3))] H_66 := kJoinX hP hD [0, 1, 2, 3, 4, 5, 6, 7, 8, 9, 10, 11, 12, 13, 14, 15, 16, 17, 18, 19, 20, 21, 22, 23, 24, 25, 26, 27, 28, 29, 30, 31, 32, 33] rfl hk1 hFc hB.1 ht hB.2.2 rfl [some 0, some 1, some 2, some 3, some 4, some 5, some 6, some 7, some 8, some 9, some 10, some 11, some 12, some 13, some 14, some 15, some 16, some 17, some 18, some 19, some 20, some 21, some 22, some 23, some 24, some 25, some 26, some 27, some 28, some 29, some 30, some 31, some 32, some 33] rfl rfl
              have hP := hPD.1
              have hD := hPD.2
              have hw_67 := hw
              refine lv_if_eq (tgt := 83) hx hb dX9_leastHelp_76 kc_t_76_7 (fun c_68 => ?_) (fun c_68 => ?_)
              · refine lv_iinc (v := nI (i + 1)) hx hb dX9_leastHelp_83 hl (k := 1) rfl (kInc _ 1) kc_l_7_9 (kTo [(7, .int (nI (i + 1))), (8, .int 1), (6, .int xb), (5, .int (nI (j_3))), (0, .ref jX), (1, .ref ru), (2, .long p1), (4, .int p2)]) (fun ls hl => ?_)
                refine lv_goto (tgt := 17) hx hb dX9_leastHelp_86 kc_t_86_m69 ?_
                exact ih_k_4 (i + 1) xb E2_47 E3_48 E4_49 E5_50 E6_51 E7_52 E8_53 E9_54 E10_55 E11_56 E12_57 E13_58 L0_59 L1_60 Dr_64 Pr_61 Mo_62 Ho_63 (Lw_65 : Value) (by omega) _ _ hP hD hS ls (lv_sub hl [0, 2, 3, 4, 5, 6, 7] rfl) (by omega)
              · refine lv_iload hx hb dX9_leastHelp_79 (lv_at hl 1 rfl) ?_
                refine lv_istore hx hb dX9_leastHelp_81 hl kc_l_6_9 (kTo [(6, .int (nI (i))), (8, .int 1), (7, .int (nI (i))), (5, .int (nI (j_3))), (0, .ref jX), (1, .ref ru), (2, .long p1), (4, .int p2)]) (fun ls hl => ?_)
                refine lv_iinc (v := nI (i + 1)) hx hb dX9_leastHelp_83 hl (k := 2) rfl (kInc _ 1) kc_l_7_9 (kTo [(7, .int (nI (i + 1))), (6, .int (nI (i))), (8, .int 1), (5, .int (nI (j_3))), (0, .ref jX), (1, .ref ru), (2, .long p1), (4, .int p2)]) (fun ls hl => ?_)
                refine lv_goto (tgt := 17) hx hb dX9_leastHelp_86 kc_t_86_m69 ?_
                exact ih_k_4 (i + 1) (nI (i)) E2_47 E3_48 E4_49 E5_50 E6_51 E7_52 E8_53 E9_54 E10_55 E11_56 E12_57 E13_58 L0_59 L1_60 Dr_64 Pr_61 Mo_62 Ho_63 (Lw_65 : Value) (by omega) _ _ hP hD hS ls (lv_sub hl [0, 1, 3, 4, 5, 6, 7] rfl) (by omega)
  exact lp_k_4 (64 - 0 + 1) 0 (-1) e2 e3 e4 e5 e6 e7 e8 e9 e10 e11 e12 e13 l0 l1 dr pr mo ho (lw : Value) (by omega) _ _ hP hD hS ls (lv_sub hl [0, 1, 2, 3, 4, 5, 6] rfl) (by omega)

theorem dX9_lookersOfSize_0 : decode cX9_lookersOfSize 0 = .ok (.aload_n 0, 1) := kDs0 kf_42 (by decide +kernel)
theorem dX9_lookersOfSize_1 : decode cX9_lookersOfSize 1 = .ok (.getfield 47, 3) := kDs2 kf_180 (by decide +kernel)
theorem dX9_lookersOfSize_4 : decode cX9_lookersOfSize 4 = .ok (.invokevirtual 185, 3) := kDs2 kf_182 (by decide +kernel)
theorem dX9_lookersOfSize_7 : decode cX9_lookersOfSize 7 = .ok (.istore 6, 2) := kDs1 kf_54 (by decide +kernel)
theorem dX9_lookersOfSize_9 : decode cX9_lookersOfSize 9 = .ok (.iconst (-1), 1) := kDs0 kf_2 (by decide +kernel)
theorem dX9_lookersOfSize_10 : decode cX9_lookersOfSize 10 = .ok (.istore 7, 2) := kDs1 kf_54 (by decide +kernel)
theorem dX9_lookersOfSize_12 : decode cX9_lookersOfSize 12 = .ok (.iconst 0, 1) := kDs0 kf_3 (by decide +kernel)
theorem dX9_lookersOfSize_13 : decode cX9_lookersOfSize 13 = .ok (.istore 8, 2) := kDs1 kf_54 (by decide +kernel)
theorem dX9_lookersOfSize_15 : decode cX9_lookersOfSize 15 = .ok (.iload 8, 2) := kDs1 kf_21 (by decide +kernel)
theorem dX9_lookersOfSize_17 : decode cX9_lookersOfSize 17 = .ok (.iload 6, 2) := kDs1 kf_21 (by decide +kernel)
theorem dX9_lookersOfSize_19 : decode cX9_lookersOfSize 19 = .ok (.if_icmp .gt 91, 3) := kDs4 kf_163 (by decide +kernel)
theorem dX9_lookersOfSize_110 : decode cX9_lookersOfSize 110 = .ok (.iload 7, 2) := kDs1 kf_21 (by decide +kernel)
theorem dX9_lookersOfSize_112 : decode cX9_lookersOfSize 112 = .ok (.ireturn, 1) := kDs0 kf_172 (by decide +kernel)
theorem dX9_lookersOfSize_22 : decode cX9_lookersOfSize 22 = .ok (.iload 8, 2) := kDs1 kf_21 (by decide +kernel)
theorem dX9_lookersOfSize_24 : decode cX9_lookersOfSize 24 = .ok (.iload 6, 2) := kDs1 kf_21 (by decide +kernel)
theorem dX9_lookersOfSize_26 : decode cX9_lookersOfSize 26 = .ok (.iconst (-1), 1) := kDs0 kf_2 (by decide +kernel)
theorem dX9_lookersOfSize_27 : decode cX9_lookersOfSize 27 = .ok (.ixor, 1) := kDs0 kf_130 (by decide +kernel)
theorem dX9_lookersOfSize_28 : decode cX9_lookersOfSize 28 = .ok (.iand, 1) := kDs0 kf_126 (by decide +kernel)
theorem dX9_lookersOfSize_29 : decode cX9_lookersOfSize 29 = .ok (.ifCond .ne 17, 3) := kDs4 kf_154 (by decide +kernel)
theorem dX9_lookersOfSize_46 : decode cX9_lookersOfSize 46 = .ok (.iconst 0, 1) := kDs0 kf_3 (by decide +kernel)
theorem dX9_lookersOfSize_47 : decode cX9_lookersOfSize 47 = .ok (.istore 9, 2) := kDs1 kf_54 (by decide +kernel)
theorem dX9_lookersOfSize_49 : decode cX9_lookersOfSize 49 = .ok (.iload 9, 2) := kDs1 kf_21 (by decide +kernel)
theorem dX9_lookersOfSize_51 : decode cX9_lookersOfSize 51 = .ok (.ifCond .eq 23, 3) := kDs4 kf_153 (by decide +kernel)
theorem dX9_lookersOfSize_74 : decode cX9_lookersOfSize 74 = .ok (.iconst 0, 1) := kDs0 kf_3 (by decide +kernel)
theorem dX9_lookersOfSize_75 : decode cX9_lookersOfSize 75 = .ok (.istore 10, 2) := kDs1 kf_54 (by decide +kernel)
theorem dX9_lookersOfSize_77 : decode cX9_lookersOfSize 77 = .ok (.iload 10, 2) := kDs1 kf_21 (by decide +kernel)
theorem dX9_lookersOfSize_79 : decode cX9_lookersOfSize 79 = .ok (.ifCond .eq 25, 3) := kDs4 kf_153 (by decide +kernel)
theorem dX9_lookersOfSize_104 : decode cX9_lookersOfSize 104 = .ok (.iinc 8 1, 3) := kDs5 kf_132 (by decide +kernel)
theorem dX9_lookersOfSize_107 : decode cX9_lookersOfSize 107 = .ok (.goto (-92), 3) := kDs4 kf_167 (by decide +kernel)
theorem dX9_lookersOfSize_32 : decode cX9_lookersOfSize 32 = .ok (.iload 8, 2) := kDs1 kf_21 (by decide +kernel)
theorem dX9_lookersOfSize_34 : decode cX9_lookersOfSize 34 = .ok (.invokestatic 233, 3) := kDs2 kf_184 (by decide +kernel)
theorem dX9_lookersOfSize_37 : decode cX9_lookersOfSize 37 = .ok (.iload 4, 2) := kDs1 kf_21 (by decide +kernel)
theorem dX9_lookersOfSize_39 : decode cX9_lookersOfSize 39 = .ok (.if_icmp .ne 7, 3) := kDs4 kf_160 (by decide +kernel)
theorem dX9_lookersOfSize_42 : decode cX9_lookersOfSize 42 = .ok (.iconst 1, 1) := kDs0 kf_4 (by decide +kernel)
theorem dX9_lookersOfSize_43 : decode cX9_lookersOfSize 43 = .ok (.goto 4, 3) := kDs4 kf_167 (by decide +kernel)
theorem dX9_lookersOfSize_54 : decode cX9_lookersOfSize 54 = .ok (.iload 7, 2) := kDs1 kf_21 (by decide +kernel)
theorem dX9_lookersOfSize_56 : decode cX9_lookersOfSize 56 = .ok (.iconst (-1), 1) := kDs0 kf_2 (by decide +kernel)
theorem dX9_lookersOfSize_57 : decode cX9_lookersOfSize 57 = .ok (.if_icmp .eq 13, 3) := kDs4 kf_159 (by decide +kernel)
theorem dX9_lookersOfSize_70 : decode cX9_lookersOfSize 70 = .ok (.iconst 1, 1) := kDs0 kf_4 (by decide +kernel)
theorem dX9_lookersOfSize_71 : decode cX9_lookersOfSize 71 = .ok (.goto 4, 3) := kDs4 kf_167 (by decide +kernel)
theorem dX9_lookersOfSize_82 : decode cX9_lookersOfSize 82 = .ok (.aload_n 0, 1) := kDs0 kf_42 (by decide +kernel)
theorem dX9_lookersOfSize_83 : decode cX9_lookersOfSize 83 = .ok (.aload_n 1, 1) := kDs0 kf_43 (by decide +kernel)
theorem dX9_lookersOfSize_84 : decode cX9_lookersOfSize 84 = .ok (.lload_n 2, 1) := kDs0 kf_32 (by decide +kernel)
theorem dX9_lookersOfSize_85 : decode cX9_lookersOfSize 85 = .ok (.iload 6, 2) := kDs1 kf_21 (by decide +kernel)
theorem dX9_lookersOfSize_87 : decode cX9_lookersOfSize 87 = .ok (.iload 8, 2) := kDs1 kf_21 (by decide +kernel)
theorem dX9_lookersOfSize_89 : decode cX9_lookersOfSize 89 = .ok (.iconst (-1), 1) := kDs0 kf_2 (by decide +kernel)
theorem dX9_lookersOfSize_90 : decode cX9_lookersOfSize 90 = .ok (.ixor, 1) := kDs0 kf_130 (by decide +kernel)
theorem dX9_lookersOfSize_91 : decode cX9_lookersOfSize 91 = .ok (.iand, 1) := kDs0 kf_126 (by decide +kernel)
theorem dX9_lookersOfSize_92 : decode cX9_lookersOfSize 92 = .ok (.invokevirtual 249, 3) := kDs2 kf_182 (by decide +kernel)
theorem dX9_lookersOfSize_95 : decode cX9_lookersOfSize 95 = .ok (.iload 5, 2) := kDs1 kf_21 (by decide +kernel)
theorem dX9_lookersOfSize_97 : decode cX9_lookersOfSize 97 = .ok (.if_icmp .ne 7, 3) := kDs4 kf_160 (by decide +kernel)
theorem dX9_lookersOfSize_100 : decode cX9_lookersOfSize 100 = .ok (.iload 8, 2) := kDs1 kf_21 (by decide +kernel)
theorem dX9_lookersOfSize_102 : decode cX9_lookersOfSize 102 = .ok (.istore 7, 2) := kDs1 kf_54 (by decide +kernel)
theorem dX9_lookersOfSize_60 : decode cX9_lookersOfSize 60 = .ok (.iload 8, 2) := kDs1 kf_21 (by decide +kernel)
theorem dX9_lookersOfSize_62 : decode cX9_lookersOfSize 62 = .ok (.iload 7, 2) := kDs1 kf_21 (by decide +kernel)
theorem dX9_lookersOfSize_64 : decode cX9_lookersOfSize 64 = .ok (.invokestatic 293, 3) := kDs2 kf_184 (by decide +kernel)
theorem dX9_lookersOfSize_67 : decode cX9_lookersOfSize 67 = .ok (.ifCond .eq 7, 3) := kDs4 kf_153 (by decide +kernel)
def w_s_lookersOf9 : List Cond := .code yX9_lookersOfSize cX9_lookersOfSize 11 (some .int) :: ([.fieldLink RX9 47 "NotEnded" "folk" "LNotEnded$Folk;", .initialized RX2, .selects RX2 yX2_sentOnes yX2_sentOnes, .instanceMethod yX2_sentOnes, .methodLink RX9 185 yX2_sentOnes, .initialized RJ6, .static yJ6_bitCount_0f7a4, .methodLink RX9 233 yJ6_bitCount_0f7a4, .initialized RX9, .selects RX9 yX9_holdersWithout yX9_holdersWithout, .instanceMethod yX9_holdersWithout, .methodLink RX9 249 yX9_holdersWithout, .static yX9_isLowerFirst, .methodLink RX9 293 yX9_isLowerFirst] ++ (wsX90 ++ (w_s_sent2n ++ (w_s_bitCount6 ++ (w_s_holders9 ++ (w_s_lower9))))))
theorem gw_s_lookersOf9 : (w_s_lookersOf9).all goodWord = true := kGc rfl (kGa (by decide +kernel) (kGa gw_wsX90 (kGa gw_s_sent2n (kGa gw_s_bitCount6 (kGa gw_s_holders9 gw_s_lower9)))))
theorem hd_X9_lookersOfSize : yX9_lookersOfSize.cls ≠ "java/lang/invoke/MethodHandle" ∧ yX9_lookersOfSize.cls ≠ "java/lang/invoke/VarHandle" ∧ (parseMethodDescriptor yX9_lookersOfSize.desc).map (fun d => d.parameters.length) = some 4 := by decide +kernel
set_option maxHeartbeats 4000000 in
set_option maxRecDepth 100000 in
theorem s_lookersOf9 (l : Launch) (dC : Nat → ClassId) (dI : Nat → Nat → Nat) (jX : Nat) (jT : Nat) (jR : Nat) (jL : Nat) (jU : Nat) (hN : Nat) (jA : Nat) (sd : Nat) (jC : Nat) (d2 : Nat) (d3 : Nat) (d4 : Nat) (d5 : Nat) (d6 : Nat) (d7 : Nat) (d8 : Nat) (d9 : Nat) (d10 : Nat) (d11 : Nat) (d12 : Nat) (d13 : Nat) (w2 : ClassId) (w3 : ClassId) (w4 : ClassId) (w5 : ClassId) (w6 : ClassId) (w7 : ClassId) (w8 : ClassId) (w9 : ClassId) (w10 : ClassId) (w11 : ClassId) (w12 : ClassId) (w13 : ClassId) (e2 : Nat → Int32) (e3 : Nat → Int32) (e4 : Nat → Int32) (e5 : Nat → Int32) (e6 : Nat → Int32) (e7 : Nat → Int32) (e8 : Nat → Int32) (e9 : Nat → Int32) (e10 : Nat → Int32) (e11 : Nat → Int32) (e12 : Nat → Int32) (e13 : Nat → Int64) (dr : Int64) (pr : Int32) (mo : Int32) (ho : Int32) (hF : Nat) (f0 : Nat) (f1 : Nat) (f2 : Nat) (f3 : Nat) (f4 : Nat) (z0 : ClassId) (z1 : ClassId) (z2 : ClassId) (z3 : ClassId) (z4 : ClassId) (g0 : Nat → Int32) (g1 : Nat → Int32) (g2 : Nat → Int32) (g3 : Nat → Int32) (g4 : Nat → Int32) (ks : Nat) (kw : Nat) (hks : ks ≤ 10) (hkw : kw ≤ 4) (sv : Nat) (hsv : sv < 1024) (jK : Nat) (k0 : Nat) (k1 : Nat) (cK : ClassId) (cO : ClassId) (l0 : Nat → Int32) (l1 : Nat → Int32) (ru : Nat) (sA : Nat) (cl : Nat) (cS : ClassId) (cc : ClassId) (nS : Nat) (nC : Nat) (gS : Nat → Int32) (gC : Nat → Int32) (hnS : nS ≤ 200) (hnC : nC ≤ 200) (o0 : Nat) (o1 : Nat) (o2 : Nat) (o3 : Nat) (o4 : Nat) (y0 : ClassId) (y1 : ClassId) (y2 : ClassId) (y3 : ClassId) (y4 : ClassId) (q0 : Nat → Int32) (q1 : Nat → Int32) (q2 : Nat → Int32) (q3 : Nat → Int32) (q4 : Nat → Int32) (kn : Nat) (hkn : kn ≤ 20) (i0 : Nat) (i1 : Nat) (i2 : Nat) (i3 : Nat) (x0 : ClassId) (x1 : ClassId) (x2 : ClassId) (x3 : ClassId) (t0 : Nat → Int32) (t1 : Nat → Int32) (t2 : Nat → Int32) (t3 : Nat → Int32) (ka : Nat) (hka : ka ≤ 6) (lw : Value) (p1 : Int64) (p2 : Int32) (p3 : Int32) (sz : Nat) : Met l yX9_lookersOfSize w_s_lookersOf9 ({ frames := 8, cells := 0, slots := 0, locals := 480 }) (kW dC dI [.ref jX, .ref ru, .long p1, .int p2, .int p3] [(jX, .inr (9, [.ref jT, .ref jR, .ref jK, .ref jL, .ref jU, .ref hF, .ref jC, .ref hN, .ref jA, .ref sd])), (jC, .inr (1, [.ref hF, .ref jK, .ref d2, .ref d3, .ref d4, .ref d5, .ref d6, .ref d7, .ref d8, .ref d9, .ref d10, .ref d11, .ref d12, .ref d13, lw, .long dr, .int pr, .int mo, .int ho])), (d2, .inl (w2, 10, .inl e2)), (d3, .inl (w3, 10, .inl e3)), (d4, .inl (w4, 10, .inl e4)), (d5, .inl (w5, 10, .inl e5)), (d6, .inl (w6, 10, .inl e6)), (d7, .inl (w7, 10, .inl e7)), (d8, .inl (w8, 10, .inl e8)), (d9, .inl (w9, 10, .inl e9)), (d10, .inl (w10, 4, .inl e10)), (d11, .inl (w11, 4, .inl e11)), (d12, .inl (w12, 4, .inl e12)), (d13, .inl (w13, 9, .inr (.inl e13))), (hF, .inr (2, [.ref f0, .ref f1, .ref f2, .ref f3, .ref f4, .int (nI (sv)), .int (nI (ks)), .int (nI (kw))])), (f0, .inl (z0, 10, .inl g0)), (f1, .inl (z1, 10, .inl g1)), (f2, .inl (z2, 10, .inl g2)), (f3, .inl (z3, 10, .inl g3)), (f4, .inl (z4, 4, .inl g4)), (jK, .inr (5, [.ref k0, .ref k1])), (k0, .inl (cK, 8, .inl l0)), (k1, .inl (cO, 32, .inl l1)), (hN, .inr (3, [.ref o0, .ref o1, .ref o2, .ref o3, .ref o4, .int (nI (kn))])), (o0, .inl (y0, 20, .inl q0)), (o1, .inl (y1, 20, .inl q1)), (o2, .inl (y2, 20, .inl q2)), (o3, .inl (y3, 20, .inl q3)), (o4, .inl (y4, 20, .inl q4)), (jA, .inr (0, [.ref i0, .ref i1, .ref i2, .ref i3, .int (nI (ka))])), (i0, .inl (x0, 6, .inl t0)), (i1, .inl (x1, 6, .inl t1)), (i2, .inl (x2, 6, .inl t2)), (i3, .inl (x3, 6, .inl t3))] [(w2, .int), (w3, .int), (w4, .int), (w5, .int), (w6, .int), (w7, .int), (w8, .int), (w9, .int), (w10, .int), (w11, .int), (w12, .int), (w13, .long), (z0, .int), (z1, .int), (z2, .int), (z3, .int), (z4, .int), (cK, .int), (cO, .int), (y0, .int), (y1, .int), (y2, .int), (y3, .int), (y4, .int), (x0, .int), (x1, .int), (x2, .int), (x3, .int), (cS, .int), (cc, .int)] (kNF dC dI [(ru, .inr (6, [.ref sA, .ref cl])), (sA, .inl (cS, nS, .inl gS)), (cl, .inl (cc, nC, .inl gC))] (va_A [(jX, .inr (9, [.ref jT, .ref jR, .ref jK, .ref jL, .ref jU, .ref hF, .ref jC, .ref hN, .ref jA, .ref sd])), (jC, .inr (1, [.ref hF, .ref jK, .ref d2, .ref d3, .ref d4, .ref d5, .ref d6, .ref d7, .ref d8, .ref d9, .ref d10, .ref d11, .ref d12, .ref d13, lw, .long dr, .int pr, .int mo, .int ho])), (d2, .inl (w2, 10, .inl e2)), (d3, .inl (w3, 10, .inl e3)), (d4, .inl (w4, 10, .inl e4)), (d5, .inl (w5, 10, .inl e5)), (d6, .inl (w6, 10, .inl e6)), (d7, .inl (w7, 10, .inl e7)), (d8, .inl (w8, 10, .inl e8)), (d9, .inl (w9, 10, .inl e9)), (d10, .inl (w10, 4, .inl e10)), (d11, .inl (w11, 4, .inl e11)), (d12, .inl (w12, 4, .inl e12)), (d13, .inl (w13, 9, .inr (.inl e13))), (hF, .inr (2, [.ref f0, .ref f1, .ref f2, .ref f3, .ref f4, .int (nI (sv)), .int (nI (ks)), .int (nI (kw))])), (f0, .inl (z0, 10, .inl g0)), (f1, .inl (z1, 10, .inl g1)), (f2, .inl (z2, 10, .inl g2)), (f3, .inl (z3, 10, .inl g3)), (f4, .inl (z4, 4, .inl g4)), (jK, .inr (5, [.ref k0, .ref k1])), (k0, .inl (cK, 8, .inl l0)), (k1, .inl (cO, 32, .inl l1)), (hN, .inr (3, [.ref o0, .ref o1, .ref o2, .ref o3, .ref o4, .int (nI (kn))])), (o0, .inl (y0, 20, .inl q0)), (o1, .inl (y1, 20, .inl q1)), (o2, .inl (y2, 20, .inl q2)), (o3, .inl (y3, 20, .inl q3)), (o4, .inl (y4, 20, .inl q4)), (jA, .inr (0, [.ref i0, .ref i1, .ref i2, .ref i3, .int (nI (ka))])), (i0, .inl (x0, 6, .inl t0)), (i1, .inl (x1, 6, .inl t1)), (i2, .inl (x2, 6, .inl t2)), (i3, .inl (x3, 6, .inl t3))] sz)) sz) (va_Qi (fun (r : Int32) (u : (Nat → Int32) × (Nat → Int32) × (Nat → Int32) × (Nat → Int32) × (Nat → Int32) × (Nat → Int32) × (Nat → Int32) × (Nat → Int32) × (Nat → Int32) × (Nat → Int32) × (Nat → Int32) × (Nat → Int64) × (Nat → Int32) × (Nat → Int32) × Int32 × Int32 × Int32 × Int64 × Value) => match u with | (E2, E3, E4, E5, E6, E7, E8, E9, E10, E11, E12, E13, L0, L1, Pr, Mo, Ho, Dr, Lw) => True) (fun (u : (Nat → Int32) × (Nat → Int32) × (Nat → Int32) × (Nat → Int32) × (Nat → Int32) × (Nat → Int32) × (Nat → Int32) × (Nat → Int32) × (Nat → Int32) × (Nat → Int32) × (Nat → Int32) × (Nat → Int64) × (Nat → Int32) × (Nat → Int32) × Int32 × Int32 × Int32 × Int64 × Value) => match u with | (E2, E3, E4, E5, E6, E7, E8, E9, E10, E11, E12, E13, L0, L1, Pr, Mo, Ho, Dr, Lw) => fun t : State => kB dC dI [(jX, .inr (9, [.ref jT, .ref jR, .ref jK, .ref jL, .ref jU, .ref hF, .ref jC, .ref hN, .ref jA, .ref sd])), (jC, .inr (1, [.ref hF, .ref jK, .ref d2, .ref d3, .ref d4, .ref d5, .ref d6, .ref d7, .ref d8, .ref d9, .ref d10, .ref d11, .ref d12, .ref d13, Lw, .long Dr, .int Pr, .int Mo, .int Ho])), (d2, .inl (w2, 10, .inl E2)), (d3, .inl (w3, 10, .inl E3)), (d4, .inl (w4, 10, .inl E4)), (d5, .inl (w5, 10, .inl E5)), (d6, .inl (w6, 10, .inl E6)), (d7, .inl (w7, 10, .inl E7)), (d8, .inl (w8, 10, .inl E8)), (d9, .inl (w9, 10, .inl E9)), (d10, .inl (w10, 4, .inl E10)), (d11, .inl (w11, 4, .inl E11)), (d12, .inl (w12, 4, .inl E12)), (d13, .inl (w13, 9, .inr (.inl E13))), (hF, .inr (2, [.ref f0, .ref f1, .ref f2, .ref f3, .ref f4, .int (nI (sv)), .int (nI (ks)), .int (nI (kw))])), (f0, .inl (z0, 10, .inl g0)), (f1, .inl (z1, 10, .inl g1)), (f2, .inl (z2, 10, .inl g2)), (f3, .inl (z3, 10, .inl g3)), (f4, .inl (z4, 4, .inl g4)), (jK, .inr (5, [.ref k0, .ref k1])), (k0, .inl (cK, 8, .inl L0)), (k1, .inl (cO, 32, .inl L1)), (hN, .inr (3, [.ref o0, .ref o1, .ref o2, .ref o3, .ref o4, .int (nI (kn))])), (o0, .inl (y0, 20, .inl q0)), (o1, .inl (y1, 20, .inl q1)), (o2, .inl (y2, 20, .inl q2)), (o3, .inl (y3, 20, .inl q3)), (o4, .inl (y4, 20, .inl q4)), (jA, .inr (0, [.ref i0, .ref i1, .ref i2, .ref i3, .int (nI (ka))])), (i0, .inl (x0, 6, .inl t0)), (i1, .inl (x1, 6, .inl t1)), (i2, .inl (x2, 6, .inl t2)), (i3, .inl (x3, 6, .inl t3))] [(w2, .int), (w3, .int), (w4, .int), (w5, .int), (w6, .int), (w7, .int), (w8, .int), (w9, .int), (w10, .int), (w11, .int), (w12, .int), (w13, .long), (z0, .int), (z1, .int), (z2, .int), (z3, .int), (z4, .int), (cK, .int), (cO, .int), (y0, .int), (y1, .int), (y2, .int), (y3, .int), (y4, .int), (x0, .int), (x1, .int), (x2, .int), (x3, .int), (cS, .int), (cc, .int)] (va_A [(jX, .inr (9, [.ref jT, .ref jR, .ref jK, .ref jL, .ref jU, .ref hF, .ref jC, .ref hN, .ref jA, .ref sd])), (jC, .inr (1, [.ref hF, .ref jK, .ref d2, .ref d3, .ref d4, .ref d5, .ref d6, .ref d7, .ref d8, .ref d9, .ref d10, .ref d11, .ref d12, .ref d13, lw, .long dr, .int pr, .int mo, .int ho])), (d2, .inl (w2, 10, .inl e2)), (d3, .inl (w3, 10, .inl e3)), (d4, .inl (w4, 10, .inl e4)), (d5, .inl (w5, 10, .inl e5)), (d6, .inl (w6, 10, .inl e6)), (d7, .inl (w7, 10, .inl e7)), (d8, .inl (w8, 10, .inl e8)), (d9, .inl (w9, 10, .inl e9)), (d10, .inl (w10, 4, .inl e10)), (d11, .inl (w11, 4, .inl e11)), (d12, .inl (w12, 4, .inl e12)), (d13, .inl (w13, 9, .inr (.inl e13))), (hF, .inr (2, [.ref f0, .ref f1, .ref f2, .ref f3, .ref f4, .int (nI (sv)), .int (nI (ks)), .int (nI (kw))])), (f0, .inl (z0, 10, .inl g0)), (f1, .inl (z1, 10, .inl g1)), (f2, .inl (z2, 10, .inl g2)), (f3, .inl (z3, 10, .inl g3)), (f4, .inl (z4, 4, .inl g4)), (jK, .inr (5, [.ref k0, .ref k1])), (k0, .inl (cK, 8, .inl l0)), (k1, .inl (cO, 32, .inl l1)), (hN, .inr (3, [.ref o0, .ref o1, .ref o2, .ref o3, .ref o4, .int (nI (kn))])), (o0, .inl (y0, 20, .inl q0)), (o1, .inl (y1, 20, .inl q1)), (o2, .inl (y2, 20, .inl q2)), (o3, .inl (y3, 20, .inl q3)), (o4, .inl (y4, 20, .inl q4)), (jA, .inr (0, [.ref i0, .ref i1, .ref i2, .ref i3, .int (nI (ka))])), (i0, .inl (x0, 6, .inl t0)), (i1, .inl (x1, 6, .inl t1)), (i2, .inl (x2, 6, .inl t2)), (i3, .inl (x3, 6, .inl t3))] sz) t) (va_A [(jX, .inr (9, [.ref jT, .ref jR, .ref jK, .ref jL, .ref jU, .ref hF, .ref jC, .ref hN, .ref jA, .ref sd])), (jC, .inr (1, [.ref hF, .ref jK, .ref d2, .ref d3, .ref d4, .ref d5, .ref d6, .ref d7, .ref d8, .ref d9, .ref d10, .ref d11, .ref d12, .ref d13, lw, .long dr, .int pr, .int mo, .int ho])), (d2, .inl (w2, 10, .inl e2)), (d3, .inl (w3, 10, .inl e3)), (d4, .inl (w4, 10, .inl e4)), (d5, .inl (w5, 10, .inl e5)), (d6, .inl (w6, 10, .inl e6)), (d7, .inl (w7, 10, .inl e7)), (d8, .inl (w8, 10, .inl e8)), (d9, .inl (w9, 10, .inl e9)), (d10, .inl (w10, 4, .inl e10)), (d11, .inl (w11, 4, .inl e11)), (d12, .inl (w12, 4, .inl e12)), (d13, .inl (w13, 9, .inr (.inl e13))), (hF, .inr (2, [.ref f0, .ref f1, .ref f2, .ref f3, .ref f4, .int (nI (sv)), .int (nI (ks)), .int (nI (kw))])), (f0, .inl (z0, 10, .inl g0)), (f1, .inl (z1, 10, .inl g1)), (f2, .inl (z2, 10, .inl g2)), (f3, .inl (z3, 10, .inl g3)), (f4, .inl (z4, 4, .inl g4)), (jK, .inr (5, [.ref k0, .ref k1])), (k0, .inl (cK, 8, .inl l0)), (k1, .inl (cO, 32, .inl l1)), (hN, .inr (3, [.ref o0, .ref o1, .ref o2, .ref o3, .ref o4, .int (nI (kn))])), (o0, .inl (y0, 20, .inl q0)), (o1, .inl (y1, 20, .inl q1)), (o2, .inl (y2, 20, .inl q2)), (o3, .inl (y3, 20, .inl q3)), (o4, .inl (y4, 20, .inl q4)), (jA, .inr (0, [.ref i0, .ref i1, .ref i2, .ref i3, .int (nI (ka))])), (i0, .inl (x0, 6, .inl t0)), (i1, .inl (x1, 6, .inl t1)), (i2, .inl (x2, 6, .inl t2)), (i3, .inl (x3, 6, .inl t3))] sz)) 0 0 (va_A [(jX, .inr (9, [.ref jT, .ref jR, .ref jK, .ref jL, .ref jU, .ref hF, .ref jC, .ref hN, .ref jA, .ref sd])), (jC, .inr (1, [.ref hF, .ref jK, .ref d2, .ref d3, .ref d4, .ref d5, .ref d6, .ref d7, .ref d8, .ref d9, .ref d10, .ref d11, .ref d12, .ref d13, lw, .long dr, .int pr, .int mo, .int ho])), (d2, .inl (w2, 10, .inl e2)), (d3, .inl (w3, 10, .inl e3)), (d4, .inl (w4, 10, .inl e4)), (d5, .inl (w5, 10, .inl e5)), (d6, .inl (w6, 10, .inl e6)), (d7, .inl (w7, 10, .inl e7)), (d8, .inl (w8, 10, .inl e8)), (d9, .inl (w9, 10, .inl e9)), (d10, .inl (w10, 4, .inl e10)), (d11, .inl (w11, 4, .inl e11)), (d12, .inl (w12, 4, .inl e12)), (d13, .inl (w13, 9, .inr (.inl e13))), (hF, .inr (2, [.ref f0, .ref f1, .ref f2, .ref f3, .ref f4, .int (nI (sv)), .int (nI (ks)), .int (nI (kw))])), (f0, .inl (z0, 10, .inl g0)), (f1, .inl (z1, 10, .inl g1)), (f2, .inl (z2, 10, .inl g2)), (f3, .inl (z3, 10, .inl g3)), (f4, .inl (z4, 4, .inl g4)), (jK, .inr (5, [.ref k0, .ref k1])), (k0, .inl (cK, 8, .inl l0)), (k1, .inl (cO, 32, .inl l1)), (hN, .inr (3, [.ref o0, .ref o1, .ref o2, .ref o3, .ref o4, .int (nI (kn))])), (o0, .inl (y0, 20, .inl q0)), (o1, .inl (y1, 20, .inl q1)), (o2, .inl (y2, 20, .inl q2)), (o3, .inl (y3, 20, .inl q3)), (o4, .inl (y4, 20, .inl q4)), (jA, .inr (0, [.ref i0, .ref i1, .ref i2, .ref i3, .int (nI (ka))])), (i0, .inl (x0, 6, .inl t0)), (i1, .inl (x1, 6, .inl t1)), (i2, .inl (x2, 6, .inl t2)), (i3, .inl (x3, 6, .inl t3))] sz) := by
  refine Met.ofW (cc := cX9_lookersOfSize) (maxL := 11) (ret := (some .int)) (by decide) rfl ?_
  intro p e s m args below meth c s₁ B hml hv
  obtain ⟨rfl, hsz, hP, hK, hD0, hX⟩ := hv
  have hx := B.exec
  have hb := B.bytes
  have hr := B.returns
  have hts := atoms_spec (ws := w_s_lookersOf9) B.pre
  have hown : s.vm.findClass RX9 = some m.cls := findClass_of_methodNamed B.named
  have hlocks := B.notSynchronized
  subst hsz
  have hD := hD0.self (sz := s.heap.size)
  generalize hAe : va_A [(jX, .inr (9, [.ref jT, .ref jR, .ref jK, .ref jL, .ref jU, .ref hF, .ref jC, .ref hN, .ref jA, .ref sd])), (jC, .inr (1, [.ref hF, .ref jK, .ref d2, .ref d3, .ref d4, .ref d5, .ref d6, .ref d7, .ref d8, .ref d9, .ref d10, .ref d11, .ref d12, .ref d13, lw, .long dr, .int pr, .int mo, .int ho])), (d2, .inl (w2, 10, .inl e2)), (d3, .inl (w3, 10, .inl e3)), (d4, .inl (w4, 10, .inl e4)), (d5, .inl (w5, 10, .inl e5)), (d6, .inl (w6, 10, .inl e6)), (d7, .inl (w7, 10, .inl e7)), (d8, .inl (w8, 10, .inl e8)), (d9, .inl (w9, 10, .inl e9)), (d10, .inl (w10, 4, .inl e10)), (d11, .inl (w11, 4, .inl e11)), (d12, .inl (w12, 4, .inl e12)), (d13, .inl (w13, 9, .inr (.inl e13))), (hF, .inr (2, [.ref f0, .ref f1, .ref f2, .ref f3, .ref f4, .int (nI (sv)), .int (nI (ks)), .int (nI (kw))])), (f0, .inl (z0, 10, .inl g0)), (f1, .inl (z1, 10, .inl g1)), (f2, .inl (z2, 10, .inl g2)), (f3, .inl (z3, 10, .inl g3)), (f4, .inl (z4, 4, .inl g4)), (jK, .inr (5, [.ref k0, .ref k1])), (k0, .inl (cK, 8, .inl l0)), (k1, .inl (cO, 32, .inl l1)), (hN, .inr (3, [.ref o0, .ref o1, .ref o2, .ref o3, .ref o4, .int (nI (kn))])), (o0, .inl (y0, 20, .inl q0)), (o1, .inl (y1, 20, .inl q1)), (o2, .inl (y2, 20, .inl q2)), (o3, .inl (y3, 20, .inl q3)), (o4, .inl (y4, 20, .inl q4)), (jA, .inr (0, [.ref i0, .ref i1, .ref i2, .ref i3, .int (nI (ka))])), (i0, .inl (x0, 6, .inl t0)), (i1, .inl (x1, 6, .inl t1)), (i2, .inl (x2, 6, .inl t2)), (i3, .inl (x3, 6, .inl t3))] s.heap.size = A at hD hX ⊢
  have hA : ∀ q : Nat, s.heap.size ≤ q → A q := fun q h => by rw [← hAe]; exact Or.inr h
  have hS : va_S A s.heap s.heap [] := va_S.rf
  have hP : va_P (dC, dI) vwCl [(jX, .inr (9, [.ref jT, .ref jR, .ref jK, .ref jL, .ref jU, .ref hF, .ref jC, .ref hN, .ref jA, .ref sd])), (jC, .inr (1, [.ref hF, .ref jK, .ref d2, .ref d3, .ref d4, .ref d5, .ref d6, .ref d7, .ref d8, .ref d9, .ref d10, .ref d11, .ref d12, .ref d13, lw, .long dr, .int pr, .int mo, .int ho])), (d2, .inl (w2, 10, .inl e2)), (d3, .inl (w3, 10, .inl e3)), (d4, .inl (w4, 10, .inl e4)), (d5, .inl (w5, 10, .inl e5)), (d6, .inl (w6, 10, .inl e6)), (d7, .inl (w7, 10, .inl e7)), (d8, .inl (w8, 10, .inl e8)), (d9, .inl (w9, 10, .inl e9)), (d10, .inl (w10, 4, .inl e10)), (d11, .inl (w11, 4, .inl e11)), (d12, .inl (w12, 4, .inl e12)), (d13, .inl (w13, 9, .inr (.inl e13))), (hF, .inr (2, [.ref f0, .ref f1, .ref f2, .ref f3, .ref f4, .int (nI (sv)), .int (nI (ks)), .int (nI (kw))])), (f0, .inl (z0, 10, .inl g0)), (f1, .inl (z1, 10, .inl g1)), (f2, .inl (z2, 10, .inl g2)), (f3, .inl (z3, 10, .inl g3)), (f4, .inl (z4, 4, .inl g4)), (jK, .inr (5, [.ref k0, .ref k1])), (k0, .inl (cK, 8, .inl l0)), (k1, .inl (cO, 32, .inl l1)), (hN, .inr (3, [.ref o0, .ref o1, .ref o2, .ref o3, .ref o4, .int (nI (kn))])), (o0, .inl (y0, 20, .inl q0)), (o1, .inl (y1, 20, .inl q1)), (o2, .inl (y2, 20, .inl q2)), (o3, .inl (y3, 20, .inl q3)), (o4, .inl (y4, 20, .inl q4)), (jA, .inr (0, [.ref i0, .ref i1, .ref i2, .ref i3, .int (nI (ka))])), (i0, .inl (x0, 6, .inl t0)), (i1, .inl (x1, 6, .inl t1)), (i2, .inl (x2, 6, .inl t2)), (i3, .inl (x3, 6, .inl t3))] s.heap := hP
  have hl := lv_entry ([.ref jX, .ref ru, .long p1, .int p2, .int p3]) (n := 11) (Nat.le_of_ble_eq_true rfl)
  rw [lg_entry_eq]
  generalize (lg_sl ([.ref jX, .ref ru, .long p1, .int p2, .int p3]) ++ List.replicate (11 - (lg_sl ([.ref jX, .ref ru, .long p1, .int p2, .int p3])).length) Slot.unset).toArray = ls at hl ⊢
  have hl : lv_has ls 11 [(0, .ref jX), (1, .ref ru), (2, .long p1), (4, .int p2), (5, .int p3)] := hl
  refine kQ (fun Q hQ => ?_)
  refine lv_aload_n hx hb dX9_lookersOfSize_0 rfl (lv_at hl 0 rfl) ?_
  refine va_get (D := (dC, dI)) (ci := 9) (v := .ref hF) (C := RX9) (T := TX9) (N := 10) hx hb hts (fun _ h => List.mem_cons_of_mem _ (List.mem_append_right _ (List.mem_append_left _ h))) hown hK hP 0 rfl rfl 5 kc_l_5_10 (hts (.fieldLink RX9 47 "NotEnded" "folk" "LNotEnded$Folk;") (List.mem_cons_of_mem _ (List.mem_append_left _ (List.mem_of_getElem? (i := 0) rfl)))) (fun _ h9 => h9) rfl dX9_lookersOfSize_1 ?_
  have hPc := hP.sb (ws2 := [(hF, .inr (2, [.ref f0, .ref f1, .ref f2, .ref f3, .ref f4, .int (nI (sv)), .int (nI (ks)), .int (nI (kw))])), (f0, .inl (z0, 10, .inl g0)), (f1, .inl (z1, 10, .inl g1)), (f2, .inl (z2, 10, .inl g2)), (f3, .inl (z3, 10, .inl g3)), (f4, .inl (z4, 4, .inl g4))]) [14, 15, 16, 17, 18, 19] rfl
  have hKc := hK.sb (tys2 := [(z0, .int), (z1, .int), (z2, .int), (z3, .int), (z4, .int)]) [12, 13, 14, 15, 16] rfl
  refine vp_callSi (va_runV (As := []) (rest := []) ⟨hx, hb, hml, hown, hts⟩ (s_sent2n l dC dI hF f0 f1 f2 f3 f4 z0 z1 z2 z3 z4 g0 g1 g2 g3 g4 ks kw hks hkw sv hsv) (cwV 0 hts (kG (List.forall_mem_cons.mpr ⟨(List.mem_cons_of_mem _ (List.mem_append_left _ (List.mem_of_getElem? (i := 4) rfl))), (List.forall_mem_cons.mpr ⟨(List.mem_cons_of_mem _ (List.mem_append_left _ (List.mem_of_getElem? (i := 3) rfl))), (List.forall_mem_cons.mpr ⟨(List.mem_cons_of_mem _ (List.mem_append_left _ (List.mem_of_getElem? (i := 2) rfl))), (List.forall_mem_cons.mpr ⟨(List.mem_cons_of_mem _ (List.mem_append_left _ (List.mem_of_getElem? (i := 1) rfl))), (fun _ h => absurd h List.not_mem_nil)⟩)⟩)⟩)⟩) (kGV _ _ _ _) (fun _ h => List.mem_cons_of_mem _ (List.mem_append_right _ (List.mem_append_right _ (List.mem_append_left _ h)))) gw_s_sent2n) rfl rfl rfl ⟨rfl, hd_X2_sentOnes⟩ ⟨(Nat.le_of_ble_eq_true rfl), (Nat.le_of_ble_eq_true rfl)⟩) (kR_V kT_blind kT_give (va_recv hKc hPc (ci := 2) (q0 := 0) rfl rfl) hPc hKc) rfl rfl hl.1 rfl (lv_room (Nat.le_of_ble_eq_true rfl)) dX9_lookersOfSize_4 ⟨(Nat.le_of_ble_eq_true rfl), (Nat.le_of_ble_eq_true rfl)⟩).run (fun r_1 hw => ?_)
  obtain rfl : r_1 = nI (sv) := hw
  refine lv_istore hx hb dX9_lookersOfSize_7 hl kc_l_6_11 (kTo [(6, .int (nI (sv))), (0, .ref jX), (1, .ref ru), (2, .long p1), (4, .int p2), (5, .int p3)]) (fun ls hl => ?_)
  refine lv_iconst (v := (-1)) hx hb dX9_lookersOfSize_9 kc_i_m1 ?_
  refine lv_istore hx hb dX9_lookersOfSize_10 hl kc_l_7_11 (kTo [(7, .int (-1)), (6, .int (nI (sv))), (0, .ref jX), (1, .ref ru), (2, .long p1), (4, .int p2), (5, .int p3)]) (fun ls hl => ?_)
  refine lv_iconst (v := 0) hx hb dX9_lookersOfSize_12 kc_i_0 ?_
  refine lv_istore hx hb dX9_lookersOfSize_13 hl kc_l_8_11 (kTo [(8, .int 0), (7, .int (-1)), (6, .int (nI (sv))), (0, .ref jX), (1, .ref ru), (2, .long p1), (4, .int p2), (5, .int p3)]) (fun ls hl => ?_)
  have lp_k_2 : ∀ (n9 : Nat) (i : Nat) (xb : Int32) (le2 : Nat → Int32) (le3 : Nat → Int32) (le4 : Nat → Int32) (le5 : Nat → Int32) (le6 : Nat → Int32) (le7 : Nat → Int32) (le8 : Nat → Int32) (le9 : Nat → Int32) (le10 : Nat → Int32) (le11 : Nat → Int32) (le12 : Nat → Int32) (le13 : Nat → Int64) (ll0 : Nat → Int32) (ll1 : Nat → Int32) (ldr : Int64) (lpr : Int32) (lmo : Int32) (lho : Int32) (llw : Value) (ivk_2_0 : i ≤ 1024) (H : Heap) (locs : List Loc) (_ : va_P (dC, dI) vwCl [(jX, .inr (9, [.ref jT, .ref jR, .ref jK, .ref jL, .ref jU, .ref hF, .ref jC, .ref hN, .ref jA, .ref sd])), (jC, .inr (1, [.ref hF, .ref jK, .ref d2, .ref d3, .ref d4, .ref d5, .ref d6, .ref d7, .ref d8, .ref d9, .ref d10, .ref d11, .ref d12, .ref d13, llw, .long ldr, .int lpr, .int lmo, .int lho])), (d2, .inl (w2, 10, .inl le2)), (d3, .inl (w3, 10, .inl le3)), (d4, .inl (w4, 10, .inl le4)), (d5, .inl (w5, 10, .inl le5)), (d6, .inl (w6, 10, .inl le6)), (d7, .inl (w7, 10, .inl le7)), (d8, .inl (w8, 10, .inl le8)), (d9, .inl (w9, 10, .inl le9)), (d10, .inl (w10, 4, .inl le10)), (d11, .inl (w11, 4, .inl le11)), (d12, .inl (w12, 4, .inl le12)), (d13, .inl (w13, 9, .inr (.inl le13))), (hF, .inr (2, [.ref f0, .ref f1, .ref f2, .ref f3, .ref f4, .int (nI (sv)), .int (nI (ks)), .int (nI (kw))])), (f0, .inl (z0, 10, .inl g0)), (f1, .inl (z1, 10, .inl g1)), (f2, .inl (z2, 10, .inl g2)), (f3, .inl (z3, 10, .inl g3)), (f4, .inl (z4, 4, .inl g4)), (jK, .inr (5, [.ref k0, .ref k1])), (k0, .inl (cK, 8, .inl ll0)), (k1, .inl (cO, 32, .inl ll1)), (hN, .inr (3, [.ref o0, .ref o1, .ref o2, .ref o3, .ref o4, .int (nI (kn))])), (o0, .inl (y0, 20, .inl q0)), (o1, .inl (y1, 20, .inl q1)), (o2, .inl (y2, 20, .inl q2)), (o3, .inl (y3, 20, .inl q3)), (o4, .inl (y4, 20, .inl q4)), (jA, .inr (0, [.ref i0, .ref i1, .ref i2, .ref i3, .int (nI (ka))])), (i0, .inl (x0, 6, .inl t0)), (i1, .inl (x1, 6, .inl t1)), (i2, .inl (x2, 6, .inl t2)), (i3, .inl (x3, 6, .inl t3))] H) (_ : va_D A [(jX, .inr (9, [.ref jT, .ref jR, .ref jK, .ref jL, .ref jU, .ref hF, .ref jC, .ref hN, .ref jA, .ref sd])), (jC, .inr (1, [.ref hF, .ref jK, .ref d2, .ref d3, .ref d4, .ref d5, .ref d6, .ref d7, .ref d8, .ref d9, .ref d10, .ref d11, .ref d12, .ref d13, llw, .long ldr, .int lpr, .int lmo, .int lho])), (d2, .inl (w2, 10, .inl le2)), (d3, .inl (w3, 10, .inl le3)), (d4, .inl (w4, 10, .inl le4)), (d5, .inl (w5, 10, .inl le5)), (d6, .inl (w6, 10, .inl le6)), (d7, .inl (w7, 10, .inl le7)), (d8, .inl (w8, 10, .inl le8)), (d9, .inl (w9, 10, .inl le9)), (d10, .inl (w10, 4, .inl le10)), (d11, .inl (w11, 4, .inl le11)), (d12, .inl (w12, 4, .inl le12)), (d13, .inl (w13, 9, .inr (.inl le13))), (hF, .inr (2, [.ref f0, .ref f1, .ref f2, .ref f3, .ref f4, .int (nI (sv)), .int (nI (ks)), .int (nI (kw))])), (f0, .inl (z0, 10, .inl g0)), (f1, .inl (z1, 10, .inl g1)), (f2, .inl (z2, 10, .inl g2)), (f3, .inl (z3, 10, .inl g3)), (f4, .inl (z4, 4, .inl g4)), (jK, .inr (5, [.ref k0, .ref k1])), (k0, .inl (cK, 8, .inl ll0)), (k1, .inl (cO, 32, .inl ll1)), (hN, .inr (3, [.ref o0, .ref o1, .ref o2, .ref o3, .ref o4, .int (nI (kn))])), (o0, .inl (y0, 20, .inl q0)), (o1, .inl (y1, 20, .inl q1)), (o2, .inl (y2, 20, .inl q2)), (o3, .inl (y3, 20, .inl q3)), (o4, .inl (y4, 20, .inl q4)), (jA, .inr (0, [.ref i0, .ref i1, .ref i2, .ref i3, .int (nI (ka))])), (i0, .inl (x0, 6, .inl t0)), (i1, .inl (x1, 6, .inl t1)), (i2, .inl (x2, 6, .inl t2)), (i3, .inl (x3, 6, .inl t3))]) (_ : va_S A s.heap H locs) (ls : Array Slot) (_ : lv_has ls 11 [(8, .int (nI (i))), (7, .int xb), (6, .int (nI (sv))), (0, .ref jX), (1, .ref ru), (2, .long p1), (4, .int p2), (5, .int p3)]) (_ : 1024 - i < n9), W p l e (headSpec w_s_lookersOf9 ({ frames := 8, cells := 0, slots := 0, locals := 480 })).room s m (#[.ref jX, .ref ru, .long p1, .int p2, .int p3] : Array Value) below meth c H locs 0 0 Q (F0 m 15 ls []) := by
    intro n9
    induction n9 with
    | zero => intro i xb le2 le3 le4 le5 le6 le7 le8 le9 le10 le11 le12 le13 ll0 ll1 ldr lpr lmo lho llw ivk_2_0 H locs hP hD hS ls hl hm9; exact absurd hm9 (Nat.not_lt_zero _)
    | succ n9 ih_k_2 =>
      intro i xb le2 le3 le4 le5 le6 le7 le8 le9 le10 le11 le12 le13 ll0 ll1 ldr lpr lmo lho llw ivk_2_0 H locs hP hD hS ls hl hm9
      refine lv_iload hx hb dX9_lookersOfSize_15 (lv_at hl 0 rfl) ?_
      refine lv_iload hx hb dX9_lookersOfSize_17 (lv_at hl 2 rfl) ?_
      refine lv_icmp_gt (tgt := 110) hx hb dX9_lookersOfSize_19 kc_t_19_91 (fun c_3 => ?_) (fun c_3 => ?_)
      · have bd_5 : sv < 2147483648 := by omega
        have bd_6 : i < 2147483648 := by omega
        have hn_4 := klt (a := sv) (b := i) bd_5 bd_6 c_3
        refine lv_iload hx hb dX9_lookersOfSize_110 (lv_at hl 1 rfl) ?_
        have hP9 := hP
        have hD9 := hD
        have hK9 := hK
        rw [hQ]
        exact W.iret (v := xb) hx hb hr (fun t ht hW => ⟨⟨xb, (le2, le3, le4, le5, le6, le7, le8, le9, le10, le11, le12, le13, ll0, ll1, lpr, lmo, lho, ldr, (llw : Value)), rfl, trivial,  by rw [ht]; exact hP9, va_K.moved hW.alike hK9, hD9⟩, hS.F ht⟩) hS.2.2 dX9_lookersOfSize_112
      · have bd_8 : sv < 2147483648 := by omega
        have bd_9 : i < 2147483648 := by omega
        have hn_7 := knlt (a := sv) (b := i) bd_8 bd_9 c_3
        refine lv_iload hx hb dX9_lookersOfSize_22 (lv_at hl 0 rfl) ?_
        refine lv_iload hx hb dX9_lookersOfSize_24 (lv_at hl 2 rfl) ?_
        refine lv_iconst (v := (-1)) hx hb dX9_lookersOfSize_26 kc_i_m1 ?_
        refine lv_ixor hx hb dX9_lookersOfSize_27 ?_
        refine lv_topi (fun x_10 ex_10 => ?_)
        refine lv_iand hx hb dX9_lookersOfSize_28 ?_
        refine lv_topi (fun x_11 ex_11 => ?_)
        refine lv_if_ne (tgt := 46) hx hb dX9_lookersOfSize_29 kc_t_29_17 (fun c_12 => ?_) (fun c_12 => ?_)
        · refine lv_iconst (v := 0) hx hb dX9_lookersOfSize_46 kc_i_0 ?_
          refine lv_istore hx hb dX9_lookersOfSize_47 hl kc_l_9_11 (kTo [(9, .int 0), (8, .int (nI (i))), (7, .int xb), (6, .int (nI (sv))), (0, .ref jX), (1, .ref ru), (2, .long p1), (4, .int p2), (5, .int p3)]) (fun ls hl => ?_)
          refine lv_iload hx hb dX9_lookersOfSize_49 (lv_at hl 0 rfl) ?_
          refine lv_if_eq (tgt := 74) hx hb dX9_lookersOfSize_51 kc_t_51_23 (fun c_13 => ?_) (fun c_13 => absurd (by decide) c_13)
          refine lv_iconst (v := 0) hx hb dX9_lookersOfSize_74 kc_i_0 ?_
          refine lv_istore hx hb dX9_lookersOfSize_75 hl kc_l_10_11 (kTo [(10, .int 0), (9, .int 0), (8, .int (nI (i))), (7, .int xb), (6, .int (nI (sv))), (0, .ref jX), (1, .ref ru), (2, .long p1), (4, .int p2), (5, .int p3)]) (fun ls hl => ?_)
          refine lv_iload hx hb dX9_lookersOfSize_77 (lv_at hl 0 rfl) ?_
          refine lv_if_eq (tgt := 104) hx hb dX9_lookersOfSize_79 kc_t_79_25 (fun c_14 => ?_) (fun c_14 => absurd (by decide) c_14)
          refine lv_iinc (v := nI (i + 1)) hx hb dX9_lookersOfSize_104 hl (k := 2) rfl (kInc _ 1) kc_l_8_11 (kTo [(8, .int (nI (i + 1))), (10, .int 0), (9, .int 0), (7, .int xb), (6, .int (nI (sv))), (0, .ref jX), (1, .ref ru), (2, .long p1), (4, .int p2), (5, .int p3)]) (fun ls hl => ?_)
          refine lv_goto (tgt := 15) hx hb dX9_lookersOfSize_107 kc_t_107_m92 ?_
          exact ih_k_2 (i + 1) xb le2 le3 le4 le5 le6 le7 le8 le9 le10 le11 le12 le13 ll0 ll1 ldr lpr lmo lho (llw : Value) (by omega) _ _ hP hD hS ls (lv_sub hl [0, 3, 4, 5, 6, 7, 8, 9] rfl) (by omega)
        · refine lv_iload hx hb dX9_lookersOfSize_32 (lv_at hl 0 rfl) ?_
          have hPc := hP.sb (ws2 := []) [] rfl
          have hKc := hK.sb (tys2 := []) [] rfl
          refine vp_callSi (va_runS (As := [.int (nI (i))]) (rest := []) ⟨hx, hb, hml, hown, hts⟩ (s_bitCount6 l dC dI (nI (i))) (va_cwS 1 hts (kG (List.forall_mem_cons.mpr ⟨(List.mem_cons_of_mem _ (List.mem_append_left _ (List.mem_of_getElem? (i := 7) rfl))), (List.forall_mem_cons.mpr ⟨(List.mem_cons_of_mem _ (List.mem_append_left _ (List.mem_of_getElem? (i := 6) rfl))), (List.forall_mem_cons.mpr ⟨(List.mem_cons_of_mem _ (List.mem_append_left _ (List.mem_of_getElem? (i := 5) rfl))), (fun _ h => absurd h List.not_mem_nil)⟩)⟩)⟩) (kGS _ _ _) (fun _ h => List.mem_cons_of_mem _ (List.mem_append_right _ (List.mem_append_right _ (List.mem_append_right _ (List.mem_append_left _ h))))) gw_s_bitCount6) rfl rfl rfl hd_J6_bitCount_0f7a4 ⟨(Nat.le_of_ble_eq_true rfl), (Nat.le_of_ble_eq_true rfl)⟩) (kR_S kT_blind kT_give hPc hKc) rfl rfl hl.1 rfl (lv_room (Nat.le_of_ble_eq_true rfl)) dX9_lookersOfSize_34 ⟨(Nat.le_of_ble_eq_true rfl), (Nat.le_of_ble_eq_true rfl)⟩).run (fun r_15 hw => ?_)
          refine lv_iload hx hb dX9_lookersOfSize_37 (lv_at hl 6 rfl) ?_
          refine lv_icmp_ne (tgt := 46) hx hb dX9_lookersOfSize_39 kc_t_39_7 (fun c_16 => ?_) (fun c_16 => ?_)
          · refine lv_iconst (v := 0) hx hb dX9_lookersOfSize_46 kc_i_0 ?_
            refine lv_istore hx hb dX9_lookersOfSize_47 hl kc_l_9_11 (kTo [(9, .int 0), (8, .int (nI (i))), (7, .int xb), (6, .int (nI (sv))), (0, .ref jX), (1, .ref ru), (2, .long p1), (4, .int p2), (5, .int p3)]) (fun ls hl => ?_)
            refine lv_iload hx hb dX9_lookersOfSize_49 (lv_at hl 0 rfl) ?_
            refine lv_if_eq (tgt := 74) hx hb dX9_lookersOfSize_51 kc_t_51_23 (fun c_17 => ?_) (fun c_17 => absurd (by decide) c_17)
            refine lv_iconst (v := 0) hx hb dX9_lookersOfSize_74 kc_i_0 ?_
            refine lv_istore hx hb dX9_lookersOfSize_75 hl kc_l_10_11 (kTo [(10, .int 0), (9, .int 0), (8, .int (nI (i))), (7, .int xb), (6, .int (nI (sv))), (0, .ref jX), (1, .ref ru), (2, .long p1), (4, .int p2), (5, .int p3)]) (fun ls hl => ?_)
            refine lv_iload hx hb dX9_lookersOfSize_77 (lv_at hl 0 rfl) ?_
            refine lv_if_eq (tgt := 104) hx hb dX9_lookersOfSize_79 kc_t_79_25 (fun c_18 => ?_) (fun c_18 => absurd (by decide) c_18)
            refine lv_iinc (v := nI (i + 1)) hx hb dX9_lookersOfSize_104 hl (k := 2) rfl (kInc _ 1) kc_l_8_11 (kTo [(8, .int (nI (i + 1))), (10, .int 0), (9, .int 0), (7, .int xb), (6, .int (nI (sv))), (0, .ref jX), (1, .ref ru), (2, .long p1), (4, .int p2), (5, .int p3)]) (fun ls hl => ?_)
            refine lv_goto (tgt := 15) hx hb dX9_lookersOfSize_107 kc_t_107_m92 ?_
            exact ih_k_2 (i + 1) xb le2 le3 le4 le5 le6 le7 le8 le9 le10 le11 le12 le13 ll0 ll1 ldr lpr lmo lho (llw : Value) (by omega) _ _ hP hD hS ls (lv_sub hl [0, 3, 4, 5, 6, 7, 8, 9] rfl) (by omega)
          · refine lv_iconst (v := 1) hx hb dX9_lookersOfSize_42 kc_i_1 ?_
            refine lv_goto (tgt := 47) hx hb dX9_lookersOfSize_43 kc_t_43_4 ?_
            refine lv_istore hx hb dX9_lookersOfSize_47 hl kc_l_9_11 (kTo [(9, .int 1), (8, .int (nI (i))), (7, .int xb), (6, .int (nI (sv))), (0, .ref jX), (1, .ref ru), (2, .long p1), (4, .int p2), (5, .int p3)]) (fun ls hl => ?_)
            refine lv_iload hx hb dX9_lookersOfSize_49 (lv_at hl 0 rfl) ?_
            refine lv_if_eq (tgt := 74) hx hb dX9_lookersOfSize_51 kc_t_51_23 (fun c_19 => absurd c_19 (by decide)) (fun c_19 => ?_)
            refine lv_iload hx hb dX9_lookersOfSize_54 (lv_at hl 2 rfl) ?_
            refine lv_iconst (v := (-1)) hx hb dX9_lookersOfSize_56 kc_i_m1 ?_
            refine lv_icmp_eq (tgt := 70) hx hb dX9_lookersOfSize_57 kc_t_57_13 (fun c_20 => ?_) (fun c_20 => ?_)
            · refine lv_iconst (v := 1) hx hb dX9_lookersOfSize_70 kc_i_1 ?_
              refine lv_goto (tgt := 75) hx hb dX9_lookersOfSize_71 kc_t_71_4 ?_
              refine lv_istore hx hb dX9_lookersOfSize_75 hl kc_l_10_11 (kTo [(10, .int 1), (9, .int 1), (8, .int (nI (i))), (7, .int xb), (6, .int (nI (sv))), (0, .ref jX), (1, .ref ru), (2, .long p1), (4, .int p2), (5, .int p3)]) (fun ls hl => ?_)
              refine lv_iload hx hb dX9_lookersOfSize_77 (lv_at hl 0 rfl) ?_
              refine lv_if_eq (tgt := 104) hx hb dX9_lookersOfSize_79 kc_t_79_25 (fun c_21 => absurd c_21 (by decide)) (fun c_21 => ?_)
              refine lv_aload_n hx hb dX9_lookersOfSize_82 rfl (lv_at hl 5 rfl) ?_
              refine lv_aload_n hx hb dX9_lookersOfSize_83 rfl (lv_at hl 6 rfl) ?_
              refine lv_lload_n hx hb dX9_lookersOfSize_84 rfl (lv_at hl 7 rfl) ?_
              refine lv_iload hx hb dX9_lookersOfSize_85 (lv_at hl 4 rfl) ?_
              refine lv_iload hx hb dX9_lookersOfSize_87 (lv_at hl 2 rfl) ?_
              refine lv_iconst (v := (-1)) hx hb dX9_lookersOfSize_89 kc_i_m1 ?_
              refine lv_ixor hx hb dX9_lookersOfSize_90 ?_
              refine lv_topi (fun x_22 ex_22 => ?_)
              refine lv_iand hx hb dX9_lookersOfSize_91 ?_
              refine lv_topi (fun x_23 ex_23 => ?_)
              have hCu := kCut (wc := [(jX, .inr (9, [.ref jT, .ref jR, .ref jK, .ref jL, .ref jU, .ref hF, .ref jC, .ref hN, .ref jA, .ref sd])), (jC, .inr (1, [.ref hF, .ref jK, .ref d2, .ref d3, .ref d4, .ref d5, .ref d6, .ref d7, .ref d8, .ref d9, .ref d10, .ref d11, .ref d12, .ref d13, llw, .long ldr, .int lpr, .int lmo, .int lho])), (d2, .inl (w2, 10, .inl le2)), (d3, .inl (w3, 10, .inl le3)), (d4, .inl (w4, 10, .inl le4)), (d5, .inl (w5, 10, .inl le5)), (d6, .inl (w6, 10, .inl le6)), (d7, .inl (w7, 10, .inl le7)), (d8, .inl (w8, 10, .inl le8)), (d9, .inl (w9, 10, .inl le9)), (d10, .inl (w10, 4, .inl le10)), (d11, .inl (w11, 4, .inl le11)), (d12, .inl (w12, 4, .inl le12)), (d13, .inl (w13, 9, .inr (.inl le13))), (hF, .inr (2, [.ref f0, .ref f1, .ref f2, .ref f3, .ref f4, .int (nI (sv)), .int (nI (ks)), .int (nI (kw))])), (f0, .inl (z0, 10, .inl g0)), (f1, .inl (z1, 10, .inl g1)), (f2, .inl (z2, 10, .inl g2)), (f3, .inl (z3, 10, .inl g3)), (f4, .inl (z4, 4, .inl g4)), (jK, .inr (5, [.ref k0, .ref k1])), (k0, .inl (cK, 8, .inl ll0)), (k1, .inl (cO, 32, .inl ll1)), (hN, .inr (3, [.ref o0, .ref o1, .ref o2, .ref o3, .ref o4, .int (nI (kn))])), (o0, .inl (y0, 20, .inl q0)), (o1, .inl (y1, 20, .inl q1)), (o2, .inl (y2, 20, .inl q2)), (o3, .inl (y3, 20, .inl q3)), (o4, .inl (y4, 20, .inl q4)), (jA, .inr (0, [.ref i0, .ref i1, .ref i2, .ref i3, .int (nI (ka))])), (i0, .inl (x0, 6, .inl t0)), (i1, .inl (x1, 6, .inl t1)), (i2, .inl (x2, 6, .inl t2)), (i3, .inl (x3, 6, .inl t3))]) hP hD hS hA [0, 1, 2, 3, 4, 5, 6, 7, 8, 9, 10, 11, 12, 13, 14, 15, 16, 17, 18, 19, 20, 21, 22, 23, 24, 25, 26, 27, 28, 29, 30, 31, 32, 33] rfl kc_nd_448 rfl
              have hPc := hCu.1
              have hDc := hCu.2.1
              have hFc := hCu.2.2
              have hKc := hK.sb (tys2 := [(w2, .int), (w3, .int), (w4, .int), (w5, .int), (w6, .int), (w7, .int), (w8, .int), (w9, .int), (w10, .int), (w11, .int), (w12, .int), (w13, .long), (z0, .int), (z1, .int), (z2, .int), (z3, .int), (z4, .int), (cK, .int), (cO, .int), (y0, .int), (y1, .int), (y2, .int), (y3, .int), (y4, .int), (x0, .int), (x1, .int), (x2, .int), (x3, .int), (cS, .int), (cc, .int)]) [0, 1, 2, 3, 4, 5, 6, 7, 8, 9, 10, 11, 12, 13, 14, 15, 16, 17, 18, 19, 20, 21, 22, 23, 24, 25, 26, 27, 28, 29] rfl
              refine va_calli (va_runV (As := [.ref ru, .long p1, .int x_23]) (rest := []) ⟨hx, hb, hml, hown, hts⟩ (s_holders9 l dC dI jX jT jR jL jU hN jA sd jC d2 d3 d4 d5 d6 d7 d8 d9 d10 d11 d12 d13 w2 w3 w4 w5 w6 w7 w8 w9 w10 w11 w12 w13 le2 le3 le4 le5 le6 le7 le8 le9 le10 le11 le12 le13 ldr lpr lmo lho hF f0 f1 f2 f3 f4 z0 z1 z2 z3 z4 g0 g1 g2 g3 g4 (nI (sv)) ks kw hks hkw jK k0 k1 cK cO ll0 ll1 ru sA cl cS cc nS nC gS gC hnS hnC o0 o1 o2 o3 o4 y0 y1 y2 y3 y4 q0 q1 q2 q3 q4 kn hkn i0 i1 i2 i3 x0 x1 x2 x3 t0 t1 t2 t3 ka hka (llw : Value) p1 x_23 H.size) (cwV 3 hts (kG (List.forall_mem_cons.mpr ⟨(List.mem_cons_of_mem _ (List.mem_append_left _ (List.mem_of_getElem? (i := 11) rfl))), (List.forall_mem_cons.mpr ⟨(List.mem_cons_of_mem _ (List.mem_append_left _ (List.mem_of_getElem? (i := 10) rfl))), (List.forall_mem_cons.mpr ⟨(List.mem_cons_of_mem _ (List.mem_append_left _ (List.mem_of_getElem? (i := 9) rfl))), (List.forall_mem_cons.mpr ⟨(List.mem_cons_of_mem _ (List.mem_append_left _ (List.mem_of_getElem? (i := 8) rfl))), (fun _ h => absurd h List.not_mem_nil)⟩)⟩)⟩)⟩) (kGV _ _ _ _) (fun _ h => List.mem_cons_of_mem _ (List.mem_append_right _ (List.mem_append_right _ (List.mem_append_right _ (List.mem_append_right _ (List.mem_append_left _ h)))))) gw_s_holders9) rfl rfl rfl ⟨rfl, hd_X9_holdersWithout⟩ ⟨(Nat.le_of_ble_eq_true rfl), (Nat.le_of_ble_eq_true rfl)⟩) (kW_V kNF_blind (kNF_give hX hS hFc) (va_recv hKc hPc (ci := 9) (q0 := 0) rfl rfl) hPc hKc hDc) rfl rfl hl.1 rfl (lv_room (Nat.le_of_ble_eq_true rfl)) dX9_lookersOfSize_92 ⟨(Nat.le_of_ble_eq_true rfl), (Nat.le_of_ble_eq_true rfl)⟩) hS (fun q _ h => hFc q h) hFc (fun r_24 => kU19 (fun E2_25 E3_26 E4_27 E5_28 E6_29 E7_30 E8_31 E9_32 E10_33 E11_34 E12_35 E13_36 L0_37 L1_38 Pr_39 Mo_40 Ho_41 Dr_42 Lw_43 t H_44 locs ht hvm hw hB hz1 hk1 hS => ?_))
              have hPD : kPD dC dI A [(jX, .inr (9, [.ref jT, .ref jR, .ref jK, .ref jL, .ref jU, .ref hF, .ref jC, .ref hN, .ref jA, .ref sd])), (jC, .inr (1, [.ref hF, .ref jK, .ref d2, .ref d3, .ref d4, .ref d5, .ref d6, .ref d7, .ref d8, .ref d9, .ref d10, .ref d11, .ref d12, .ref d13, Lw_43, .long Dr_42, .int Pr_39, .int Mo_40, .int Ho_41])), (d2, .inl (w2, 10, .inl E2_25)), (d3, .inl (w3, 10, .inl E3_26)), (d4, .inl (w4, 10, .inl E4_27)), (d5, .inl (w5, 10, .inl E5_28)), (d6, .inl (w6, 10, .inl E6_29)), (d7, .inl (w7, 10, .inl E7_30)), (d8, .inl (w8, 10, .inl E8_31)), (d9, .inl (w9, 10, .inl E9_32)), (d10, .inl (w10, 4, .inl E10_33)), (d11, .inl (w11, 4, .inl E11_34)), (d12, .inl (w12, 4, .inl E12_35)), (d13, .inl (w13, 9, .inr (.inl E13_36))), (hF, .inr (2, [.ref f0, .ref f1, .ref f2, .ref f3, .ref f4, .int (nI (sv)), .int (nI (ks)), .int (nI (kw))])), (f0, .inl (z0, 10, .inl g0)), (f1, .inl (z1, 10, .inl g1)), (f2, .inl (z2, 10, .inl g2)), (f3, .inl (z3, 10, .inl g3)), (f4, .inl (z4, 4, .inl g4)), (jK, .inr (5, [.ref k0, .ref k1])), (k0, .inl (cK, 8, .inl L0_37)), (k1, .inl (cO, 32, .inl L1_38)), (hN, .inr (3, [.ref o0, .ref o1, .ref o2, .ref o3, .ref o4, .int (nI (kn))])), (o0, .inl (y0, 20, .inl q0)), (o1, .inl (y1, 20, .inl q1)), (o2, .inl (y2, 20, .inl q2)), (o3, .inl (y3, 20, .inl q3)), (o4, .inl (y4, 20, .inl q4)), (jA, .inr (0, [.ref i0, .ref i1, .ref i2, .ref i3, .int (nI (ka))])), (i0, .inl (x0, 6, .inl t0)), (i1, .inl (x1, 6, .inl t1)), (i2, .inl (x2, 6, .inl t2)), (i3, .inl (x3, 6, .inl t3))] H_44 := kJoinX hP hD [0, 1, 2, 3, 4, 5, 6, 7, 8, 9, 10, 11, 12, 13, 14, 15, 16, 17, 18, 19, 20, 21, 22, 23, 24, 25, 26, 27, 28, 29, 30, 31, 32, 33] rfl hk1 hFc hB.1 ht hB.2.2 rfl [some 0, some 1, some 2, some 3, some 4, some 5, some 6, some 7, some 8, some 9, some 10, some 11, some 12, some 13, some 14, some 15, some 16, some 17, some 18, some 19, some 20, some 21, some 22, some 23, some 24, some 25, some 26, some 27, some 28, some 29, some 30, some 31, some 32, some 33] rfl rfl
              have hP := hPD.1
              have hD := hPD.2
              refine lv_iload hx hb dX9_lookersOfSize_95 (lv_at hl 9 rfl) ?_
              refine lv_icmp_ne (tgt := 104) hx hb dX9_lookersOfSize_97 kc_t_97_7 (fun c_45 => ?_) (fun c_45 => ?_)
              · refine lv_iinc (v := nI (i + 1)) hx hb dX9_lookersOfSize_104 hl (k := 2) rfl (kInc _ 1) kc_l_8_11 (kTo [(8, .int (nI (i + 1))), (10, .int 1), (9, .int 1), (7, .int xb), (6, .int (nI (sv))), (0, .ref jX), (1, .ref ru), (2, .long p1), (4, .int p2), (5, .int p3)]) (fun ls hl => ?_)
                refine lv_goto (tgt := 15) hx hb dX9_lookersOfSize_107 kc_t_107_m92 ?_
                exact ih_k_2 (i + 1) xb E2_25 E3_26 E4_27 E5_28 E6_29 E7_30 E8_31 E9_32 E10_33 E11_34 E12_35 E13_36 L0_37 L1_38 Dr_42 Pr_39 Mo_40 Ho_41 (Lw_43 : Value) (by omega) _ _ hP hD hS ls (lv_sub hl [0, 3, 4, 5, 6, 7, 8, 9] rfl) (by omega)
              · refine lv_iload hx hb dX9_lookersOfSize_100 (lv_at hl 2 rfl) ?_
                refine lv_istore hx hb dX9_lookersOfSize_102 hl kc_l_7_11 (kTo [(7, .int (nI (i))), (10, .int 1), (9, .int 1), (8, .int (nI (i))), (6, .int (nI (sv))), (0, .ref jX), (1, .ref ru), (2, .long p1), (4, .int p2), (5, .int p3)]) (fun ls hl => ?_)
                refine lv_iinc (v := nI (i + 1)) hx hb dX9_lookersOfSize_104 hl (k := 3) rfl (kInc _ 1) kc_l_8_11 (kTo [(8, .int (nI (i + 1))), (7, .int (nI (i))), (10, .int 1), (9, .int 1), (6, .int (nI (sv))), (0, .ref jX), (1, .ref ru), (2, .long p1), (4, .int p2), (5, .int p3)]) (fun ls hl => ?_)
                refine lv_goto (tgt := 15) hx hb dX9_lookersOfSize_107 kc_t_107_m92 ?_
                exact ih_k_2 (i + 1) (nI (i)) E2_25 E3_26 E4_27 E5_28 E6_29 E7_30 E8_31 E9_32 E10_33 E11_34 E12_35 E13_36 L0_37 L1_38 Dr_42 Pr_39 Mo_40 Ho_41 (Lw_43 : Value) (by omega) _ _ hP hD hS ls (lv_sub hl [0, 1, 4, 5, 6, 7, 8, 9] rfl) (by omega)
            · refine lv_iload hx hb dX9_lookersOfSize_60 (lv_at hl 1 rfl) ?_
              refine lv_iload hx hb dX9_lookersOfSize_62 (lv_at hl 2 rfl) ?_
              have hPc := hP.sb (ws2 := []) [] rfl
              have hKc := hK.sb (tys2 := []) [] rfl
              refine vp_callSi (va_runS (As := [.int (nI (i)), .int xb]) (rest := []) ⟨hx, hb, hml, hown, hts⟩ (s_lower9 l dC dI (nI (i)) xb) (va_cwS 2 hts (kG (List.forall_mem_cons.mpr ⟨(List.mem_cons_of_mem _ (List.mem_append_left _ (List.mem_of_getElem? (i := 13) rfl))), (List.forall_mem_cons.mpr ⟨(List.mem_cons_of_mem _ (List.mem_append_left _ (List.mem_of_getElem? (i := 12) rfl))), (List.forall_mem_cons.mpr ⟨(List.mem_cons_of_mem _ (List.mem_append_left _ (List.mem_of_getElem? (i := 8) rfl))), (fun _ h => absurd h List.not_mem_nil)⟩)⟩)⟩) (kGS _ _ _) (fun _ h => List.mem_cons_of_mem _ (List.mem_append_right _ (List.mem_append_right _ (List.mem_append_right _ (List.mem_append_right _ (List.mem_append_right _ h)))))) gw_s_lower9) rfl rfl rfl hd_X9_isLowerFirst ⟨(Nat.le_of_ble_eq_true rfl), (Nat.le_of_ble_eq_true rfl)⟩) (kR_S kT_blind kT_give hPc hKc) rfl rfl hl.1 rfl (lv_room (Nat.le_of_ble_eq_true rfl)) dX9_lookersOfSize_64 ⟨(Nat.le_of_ble_eq_true rfl), (Nat.le_of_ble_eq_true rfl)⟩).run (fun r_46 hw => ?_)
              have hw_47 := hw
              refine lv_if_eq (tgt := 74) hx hb dX9_lookersOfSize_67 kc_t_67_7 (fun c_48 => ?_) (fun c_48 => ?_)
              · refine lv_iconst (v := 0) hx hb dX9_lookersOfSize_74 kc_i_0 ?_
                refine lv_istore hx hb dX9_lookersOfSize_75 hl kc_l_10_11 (kTo [(10, .int 0), (9, .int 1), (8, .int (nI (i))), (7, .int xb), (6, .int (nI (sv))), (0, .ref jX), (1, .ref ru), (2, .long p1), (4, .int p2), (5, .int p3)]) (fun ls hl => ?_)
                refine lv_iload hx hb dX9_lookersOfSize_77 (lv_at hl 0 rfl) ?_
                refine lv_if_eq (tgt := 104) hx hb dX9_lookersOfSize_79 kc_t_79_25 (fun c_49 => ?_) (fun c_49 => absurd (by decide) c_49)
                refine lv_iinc (v := nI (i + 1)) hx hb dX9_lookersOfSize_104 hl (k := 2) rfl (kInc _ 1) kc_l_8_11 (kTo [(8, .int (nI (i + 1))), (10, .int 0), (9, .int 1), (7, .int xb), (6, .int (nI (sv))), (0, .ref jX), (1, .ref ru), (2, .long p1), (4, .int p2), (5, .int p3)]) (fun ls hl => ?_)
                refine lv_goto (tgt := 15) hx hb dX9_lookersOfSize_107 kc_t_107_m92 ?_
                exact ih_k_2 (i + 1) xb le2 le3 le4 le5 le6 le7 le8 le9 le10 le11 le12 le13 ll0 ll1 ldr lpr lmo lho (llw : Value) (by omega) _ _ hP hD hS ls (lv_sub hl [0, 3, 4, 5, 6, 7, 8, 9] rfl) (by omega)
              · refine lv_iconst (v := 1) hx hb dX9_lookersOfSize_70 kc_i_1 ?_
                refine lv_goto (tgt := 75) hx hb dX9_lookersOfSize_71 kc_t_71_4 ?_
                refine lv_istore hx hb dX9_lookersOfSize_75 hl kc_l_10_11 (kTo [(10, .int 1), (9, .int 1), (8, .int (nI (i))), (7, .int xb), (6, .int (nI (sv))), (0, .ref jX), (1, .ref ru), (2, .long p1), (4, .int p2), (5, .int p3)]) (fun ls hl => ?_)
                refine lv_iload hx hb dX9_lookersOfSize_77 (lv_at hl 0 rfl) ?_
                refine lv_if_eq (tgt := 104) hx hb dX9_lookersOfSize_79 kc_t_79_25 (fun c_50 => absurd c_50 (by decide)) (fun c_50 => ?_)
                refine lv_aload_n hx hb dX9_lookersOfSize_82 rfl (lv_at hl 5 rfl) ?_
                refine lv_aload_n hx hb dX9_lookersOfSize_83 rfl (lv_at hl 6 rfl) ?_
                refine lv_lload_n hx hb dX9_lookersOfSize_84 rfl (lv_at hl 7 rfl) ?_
                refine lv_iload hx hb dX9_lookersOfSize_85 (lv_at hl 4 rfl) ?_
                refine lv_iload hx hb dX9_lookersOfSize_87 (lv_at hl 2 rfl) ?_
                refine lv_iconst (v := (-1)) hx hb dX9_lookersOfSize_89 kc_i_m1 ?_
                refine lv_ixor hx hb dX9_lookersOfSize_90 ?_
                refine lv_topi (fun x_51 ex_51 => ?_)
                refine lv_iand hx hb dX9_lookersOfSize_91 ?_
                refine lv_topi (fun x_52 ex_52 => ?_)
                have hCu := kCut (wc := [(jX, .inr (9, [.ref jT, .ref jR, .ref jK, .ref jL, .ref jU, .ref hF, .ref jC, .ref hN, .ref jA, .ref sd])), (jC, .inr (1, [.ref hF, .ref jK, .ref d2, .ref d3, .ref d4, .ref d5, .ref d6, .ref d7, .ref d8, .ref d9, .ref d10, .ref d11, .ref d12, .ref d13, llw, .long ldr, .int lpr, .int lmo, .int lho])), (d2, .inl (w2, 10, .inl le2)), (d3, .inl (w3, 10, .inl le3)), (d4, .inl (w4, 10, .inl le4)), (d5, .inl (w5, 10, .inl le5)), (d6, .inl (w6, 10, .inl le6)), (d7, .inl (w7, 10, .inl le7)), (d8, .inl (w8, 10, .inl le8)), (d9, .inl (w9, 10, .inl le9)), (d10, .inl (w10, 4, .inl le10)), (d11, .inl (w11, 4, .inl le11)), (d12, .inl (w12, 4, .inl le12)), (d13, .inl (w13, 9, .inr (.inl le13))), (hF, .inr (2, [.ref f0, .ref f1, .ref f2, .ref f3, .ref f4, .int (nI (sv)), .int (nI (ks)), .int (nI (kw))])), (f0, .inl (z0, 10, .inl g0)), (f1, .inl (z1, 10, .inl g1)), (f2, .inl (z2, 10, .inl g2)), (f3, .inl (z3, 10, .inl g3)), (f4, .inl (z4, 4, .inl g4)), (jK, .inr (5, [.ref k0, .ref k1])), (k0, .inl (cK, 8, .inl ll0)), (k1, .inl (cO, 32, .inl ll1)), (hN, .inr (3, [.ref o0, .ref o1, .ref o2, .ref o3, .ref o4, .int (nI (kn))])), (o0, .inl (y0, 20, .inl q0)), (o1, .inl (y1, 20, .inl q1)), (o2, .inl (y2, 20, .inl q2)), (o3, .inl (y3, 20, .inl q3)), (o4, .inl (y4, 20, .inl q4)), (jA, .inr (0, [.ref i0, .ref i1, .ref i2, .ref i3, .int (nI (ka))])), (i0, .inl (x0, 6, .inl t0)), (i1, .inl (x1, 6, .inl t1)), (i2, .inl (x2, 6, .inl t2)), (i3, .inl (x3, 6, .inl t3))]) hP hD hS hA [0, 1, 2, 3, 4, 5, 6, 7, 8, 9, 10, 11, 12, 13, 14, 15, 16, 17, 18, 19, 20, 21, 22, 23, 24, 25, 26, 27, 28, 29, 30, 31, 32, 33] rfl kc_nd_448 rfl
                have hPc := hCu.1
                have hDc := hCu.2.1
                have hFc := hCu.2.2
                have hKc := hK.sb (tys2 := [(w2, .int), (w3, .int), (w4, .int), (w5, .int), (w6, .int), (w7, .int), (w8, .int), (w9, .int), (w10, .int), (w11, .int), (w12, .int), (w13, .long), (z0, .int), (z1, .int), (z2, .int), (z3, .int), (z4, .int), (cK, .int), (cO, .int), (y0, .int), (y1, .int), (y2, .int), (y3, .int), (y4, .int), (x0, .int), (x1, .int), (x2, .int), (x3, .int), (cS, .int), (cc, .int)]) [0, 1, 2, 3, 4, 5, 6, 7, 8, 9, 10, 11, 12, 13, 14, 15, 16, 17, 18, 19, 20, 21, 22, 23, 24, 25, 26, 27, 28, 29] rfl
                refine va_calli (va_runV (As := [.ref ru, .long p1, .int x_52]) (rest := []) ⟨hx, hb, hml, hown, hts⟩ (s_holders9 l dC dI jX jT jR jL jU hN jA sd jC d2 d3 d4 d5 d6 d7 d8 d9 d10 d11 d12 d13 w2 w3 w4 w5 w6 w7 w8 w9 w10 w11 w12 w13 le2 le3 le4 le5 le6 le7 le8 le9 le10 le11 le12 le13 ldr lpr lmo lho hF f0 f1 f2 f3 f4 z0 z1 z2 z3 z4 g0 g1 g2 g3 g4 (nI (sv)) ks kw hks hkw jK k0 k1 cK cO ll0 ll1 ru sA cl cS cc nS nC gS gC hnS hnC o0 o1 o2 o3 o4 y0 y1 y2 y3 y4 q0 q1 q2 q3 q4 kn hkn i0 i1 i2 i3 x0 x1 x2 x3 t0 t1 t2 t3 ka hka (llw : Value) p1 x_52 H.size) (cwV 3 hts (kG (List.forall_mem_cons.mpr ⟨(List.mem_cons_of_mem _ (List.mem_append_left _ (List.mem_of_getElem? (i := 11) rfl))), (List.forall_mem_cons.mpr ⟨(List.mem_cons_of_mem _ (List.mem_append_left _ (List.mem_of_getElem? (i := 10) rfl))), (List.forall_mem_cons.mpr ⟨(List.mem_cons_of_mem _ (List.mem_append_left _ (List.mem_of_getElem? (i := 9) rfl))), (List.forall_mem_cons.mpr ⟨(List.mem_cons_of_mem _ (List.mem_append_left _ (List.mem_of_getElem? (i := 8) rfl))), (fun _ h => absurd h List.not_mem_nil)⟩)⟩)⟩)⟩) (kGV _ _ _ _) (fun _ h => List.mem_cons_of_mem _ (List.mem_append_right _ (List.mem_append_right _ (List.mem_append_right _ (List.mem_append_right _ (List.mem_append_left _ h)))))) gw_s_holders9) rfl rfl rfl ⟨rfl, hd_X9_holdersWithout⟩ ⟨(Nat.le_of_ble_eq_true rfl), (Nat.le_of_ble_eq_true rfl)⟩) (kW_V kNF_blind (kNF_give hX hS hFc) (va_recv hKc hPc (ci := 9) (q0 := 0) rfl rfl) hPc hKc hDc) rfl rfl hl.1 rfl (lv_room (Nat.le_of_ble_eq_true rfl)) dX9_lookersOfSize_92 ⟨(Nat.le_of_ble_eq_true rfl), (Nat.le_of_ble_eq_true rfl)⟩) hS (fun q _ h => hFc q h) hFc (fun r_53 => kU19 (fun E2_54 E3_55 E4_56 E5_57 E6_58 E7_59 E8_60 E9_61 E10_62 E11_63 E12_64 E13_65 L0_66 L1_67 Pr_68 Mo_69 Ho_70 Dr_71 Lw_72 t H_73 locs ht hvm hw hB hz1 hk1 hS => ?_))
                have hPD : kPD dC dI A [(jX, .inr (9, [.ref jT, .ref jR, .ref jK, .ref jL, .ref jU, .ref hF, .ref jC, .ref hN, .ref jA, .ref sd])), (jC, .inr (1, [.ref hF, .ref jK, .ref d2, .ref d3, .ref d4, .ref d5, .ref d6, .ref d7, .ref d8, .ref d9, .ref d10, .ref d11, .ref d12, .ref d13, Lw_72, .long Dr_71, .int Pr_68, .int Mo_69, .int Ho_70])), (d2, .inl (w2, 10, .inl E2_54)), (d3, .inl (w3, 10, .inl E3_55)), (d4, .inl (w4, 10, .inl E4_56)), (d5, .inl (w5, 10, .inl E5_57)), (d6, .inl (w6, 10, .inl E6_58)), (d7, .inl (w7, 10, .inl E7_59)), (d8, .inl (w8, 10, .inl E8_60)), (d9, .inl (w9, 10, .inl E9_61)), (d10, .inl (w10, 4, .inl E10_62)), (d11, .inl (w11, 4, .inl E11_63)), (d12, .inl (w12, 4, .inl E12_64)), (d13, .inl (w13, 9, .inr (.inl E13_65))), (hF, .inr (2, [.ref f0, .ref f1, .ref f2, .ref f3, .ref f4, .int (nI (sv)), .int (nI (ks)), .int (nI (kw))])), (f0, .inl (z0, 10, .inl g0)), (f1, .inl (z1, 10, .inl g1)), (f2, .inl (z2, 10, .inl g2)), (f3, .inl (z3, 10, .inl g3)), (f4, .inl (z4, 4, .inl g4)), (jK, .inr (5, [.ref k0, .ref k1])), (k0, .inl (cK, 8, .inl L0_66)), (k1, .inl (cO, 32, .inl L1_67)), (hN, .inr (3, [.ref o0, .ref o1, .ref o2, .ref o3, .ref o4, .int (nI (kn))])), (o0, .inl (y0, 20, .inl q0)), (o1, .inl (y1, 20, .inl q1)), (o2, .inl (y2, 20, .inl q2)), (o3, .inl (y3, 20, .inl q3)), (o4, .inl (y4, 20, .inl q4)), (jA, .inr (0, [.ref i0, .ref i1, .ref i2, .ref i3, .int (nI (ka))])), (i0, .inl (x0, 6, .inl t0)), (i1, .inl (x1, 6, .inl t1)), (i2, .inl (x2, 6, .inl t2)), (i3, .inl (x3, 6, .inl t3))] H_73 := kJoinX hP hD [0, 1, 2, 3, 4, 5, 6, 7, 8, 9, 10, 11, 12, 13, 14, 15, 16, 17, 18, 19, 20, 21, 22, 23, 24, 25, 26, 27, 28, 29, 30, 31, 32, 33] rfl hk1 hFc hB.1 ht hB.2.2 rfl [some 0, some 1, some 2, some 3, some 4, some 5, some 6, some 7, some 8, some 9, some 10, some 11, some 12, some 13, some 14, some 15, some 16, some 17, some 18, some 19, some 20, some 21, some 22, some 23, some 24, some 25, some 26, some 27, some 28, some 29, some 30, some 31, some 32, some 33] rfl rfl
                have hP := hPD.1
                have hD := hPD.2
                refine lv_iload hx hb dX9_lookersOfSize_95 (lv_at hl 9 rfl) ?_
                refine lv_icmp_ne (tgt := 104) hx hb dX9_lookersOfSize_97 kc_t_97_7 (fun c_74 => ?_) (fun c_74 => ?_)
                · refine lv_iinc (v := nI (i + 1)) hx hb dX9_lookersOfSize_104 hl (k := 2) rfl (kInc _ 1) kc_l_8_11 (kTo [(8, .int (nI (i + 1))), (10, .int 1), (9, .int 1), (7, .int xb), (6, .int (nI (sv))), (0, .ref jX), (1, .ref ru), (2, .long p1), (4, .int p2), (5, .int p3)]) (fun ls hl => ?_)
                  refine lv_goto (tgt := 15) hx hb dX9_lookersOfSize_107 kc_t_107_m92 ?_
                  exact ih_k_2 (i + 1) xb E2_54 E3_55 E4_56 E5_57 E6_58 E7_59 E8_60 E9_61 E10_62 E11_63 E12_64 E13_65 L0_66 L1_67 Dr_71 Pr_68 Mo_69 Ho_70 (Lw_72 : Value) (by omega) _ _ hP hD hS ls (lv_sub hl [0, 3, 4, 5, 6, 7, 8, 9] rfl) (by omega)
                · refine lv_iload hx hb dX9_lookersOfSize_100 (lv_at hl 2 rfl) ?_
                  refine lv_istore hx hb dX9_lookersOfSize_102 hl kc_l_7_11 (kTo [(7, .int (nI (i))), (10, .int 1), (9, .int 1), (8, .int (nI (i))), (6, .int (nI (sv))), (0, .ref jX), (1, .ref ru), (2, .long p1), (4, .int p2), (5, .int p3)]) (fun ls hl => ?_)
                  refine lv_iinc (v := nI (i + 1)) hx hb dX9_lookersOfSize_104 hl (k := 3) rfl (kInc _ 1) kc_l_8_11 (kTo [(8, .int (nI (i + 1))), (7, .int (nI (i))), (10, .int 1), (9, .int 1), (6, .int (nI (sv))), (0, .ref jX), (1, .ref ru), (2, .long p1), (4, .int p2), (5, .int p3)]) (fun ls hl => ?_)
                  refine lv_goto (tgt := 15) hx hb dX9_lookersOfSize_107 kc_t_107_m92 ?_
                  exact ih_k_2 (i + 1) (nI (i)) E2_54 E3_55 E4_56 E5_57 E6_58 E7_59 E8_60 E9_61 E10_62 E11_63 E12_64 E13_65 L0_66 L1_67 Dr_71 Pr_68 Mo_69 Ho_70 (Lw_72 : Value) (by omega) _ _ hP hD hS ls (lv_sub hl [0, 1, 4, 5, 6, 7, 8, 9] rfl) (by omega)
  exact lp_k_2 (1024 - 0 + 1) 0 (-1) e2 e3 e4 e5 e6 e7 e8 e9 e10 e11 e12 e13 l0 l1 dr pr mo ho (lw : Value) (by omega) _ _ hP hD hS ls (lv_sub hl [0, 1, 2, 3, 4, 5, 6, 7] rfl) (by omega)
