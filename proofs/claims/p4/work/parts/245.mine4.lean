theorem nI_or (a b : Nat) : nI a ||| nI b = nI (a ||| b) := Int32.toBitVec_inj.mp (by show BitVec.ofNat 32 a ||| BitVec.ofNat 32 b = BitVec.ofNat 32 (a ||| b); exact BitVec.ofNat_or.symm)
theorem nI_mul (a b : Nat) : nI a * nI b = nI (a * b) := (Int32.ofNat_mul a b).symm
theorem kShlF : ∀ k : Fin 31, (1 : Int32) <<< (nI k.val &&& 31) = nI (2 ^ k.val) := by decide +kernel
theorem kShl {n : Nat} (h : n < 31) : (1 : Int32) <<< (nI n &&& 31) = nI (2 ^ n) := kShlF ⟨n, h⟩
theorem kOr6 {a b : Nat} (ha : a < 64) (hb : b < 6) : a ||| (2 ^ b) < 64 := Nat.or_lt_two_pow (n := 6) ha (Nat.pow_lt_pow_right (by decide) hb)
theorem kOr10 {a b : Nat} (ha : a < 1024) (hb : b < 10) : a ||| (2 ^ b) < 1024 := Nat.or_lt_two_pow (n := 10) ha (Nat.pow_lt_pow_right (by decide) hb)
theorem kOfPos {x : Int32} (h : ¬ x ≤ 0) : ∃ j : Nat, j + 1 < 2 ^ 31 ∧ x = nI (j + 1) := by
  have h0 : ¬ x < 0 := fun z => h (Int32.le_of_lt z)
  obtain ⟨k, hk, e⟩ := nI_of h0
  rcases k with _ | j
  · exact absurd (by rw [e]; decide) h
  · exact ⟨j, hk, e⟩
theorem kRfv (x : Option Nat) : va_rf x = .null ∨ ∃ a, va_rf x = .ref a := by
  cases x
  · exact Or.inl rfl
  · exact Or.inr ⟨_, rfl⟩
theorem kMinN {a b : Nat} (h : b ≤ a) (ha : a < 2 ^ 31) {x : Int32} (e : x = if nI b < nI a then nI b else nI a) : x = nI b := by
  by_cases hz : nI b < nI a
  · rw [if_pos hz] at e; exact e
  · rw [if_neg hz] at e
    have := knlt (a := b) (b := a) (by omega) ha hz
    rw [e, show a = b by omega]
theorem kFull {a b : Nat} {r : Int32} (hw : r = if a < b then 0 else 1) (c : r = 0) : a < b := by
  by_cases h : a < b
  · exact h
  · rw [if_neg h] at hw; rw [hw] at c; exact absurd c (by decide)
/-- kl texts on a shelf: each is a rule whose three cells lie in the heap, none of them in A -/
def kSh (dC : Nat → ClassId) (dI : Nat → Nat → Nat) (kl : Nat) (gL : Nat → Option Nat) (yL : Nat → List kTr) (M9 : Nat) (A : Nat → Prop) (U : State) : Prop := ∀ j : Nat, j < kl → ∃ (ru sA cl : Nat) (cS cc : ClassId) (nS nC : Nat) (gS gC : Nat → Int32), gL j = some ru ∧ kRu (yL j) M9 nS nC gS gC ∧ nS ≤ 200 ∧ nC ≤ 200 ∧ va_K (dC, dI) vwCl [(cS, .int), (cc, .int)] U ∧ (va_P (dC, dI) vwCl [(ru, .inr (6, [.ref sA, .ref cl])), (sA, .inl (cS, nS, .inl gS)), (cl, .inl (cc, nC, .inl gC))] U.heap ∧ ∀ (k : Nat) (q : Nat × va_E), ([(ru, .inr (6, [.ref sA, .ref cl])), (sA, .inl (cS, nS, .inl gS)), (cl, .inl (cc, nC, .inl gC))] : va_W)[k]? = some q → ¬ A q.1)
theorem kSh_get {dC : Nat → ClassId} {dI : Nat → Nat → Nat} {kl : Nat} {gL : Nat → Option Nat} {yL : Nat → List kTr} {M9 : Nat} {A : Nat → Prop} {s : State} (h : kSh dC dI kl gL yL M9 A s) {ru : Nat} (hw : some ru = none ∨ ∃ j : Nat, j < kl ∧ some ru = gL j) : ∃ (sA cl : Nat) (cS cc : ClassId) (nS nC : Nat) (gS gC : Nat → Int32), nS ≤ 200 ∧ nC ≤ 200 ∧ va_K (dC, dI) vwCl [(cS, .int), (cc, .int)] s ∧ (va_P (dC, dI) vwCl [(ru, .inr (6, [.ref sA, .ref cl])), (sA, .inl (cS, nS, .inl gS)), (cl, .inl (cc, nC, .inl gC))] s.heap ∧ ∀ (k : Nat) (q : Nat × va_E), ([(ru, .inr (6, [.ref sA, .ref cl])), (sA, .inl (cS, nS, .inl gS)), (cl, .inl (cc, nC, .inl gC))] : va_W)[k]? = some q → ¬ A q.1) := by
  rcases hw with z | ⟨j, hj, e⟩
  · cases z
  · obtain ⟨ru', sA, cl, cS, cc, nS, nC, gS, gC, e1, hy, h1, h2, h3, h4⟩ := h j hj
    cases e.trans e1
    exact ⟨sA, cl, cS, cc, nS, nC, gS, gC, h1, h2, h3, h4⟩
theorem kSh_some {dC : Nat → ClassId} {dI : Nat → Nat → Nat} {kl : Nat} {gL : Nat → Option Nat} {yL : Nat → List kTr} {M9 : Nat} {A : Nat → Prop} {s : State} (h : kSh dC dI kl gL yL M9 A s) {j : Nat} (hj : j < kl) : ∃ ru : Nat, gL j = some ru := by
  obtain ⟨ru', sA, cl, cS, cc, nS, nC, gS, gC, e1, hy, h1, h2, h3, h4⟩ := h j hj
  exact ⟨ru', e1⟩
theorem kSh_blind {dC : Nat → ClassId} {dI : Nat → Nat → Nat} {kl : Nat} {gL : Nat → Option Nat} {yL : Nat → List kTr} {M9 : Nat} {A : Nat → Prop} : ∀ (U : State) (g : JFrame) (mk : MethodId) (a : Array Value), kSh dC dI kl gL yL M9 A U → kSh dC dI kl gL yL M9 A (U.calling g mk a) := fun U g mk a h j hj => by
  obtain ⟨ru, sA, cl, cS, cc, nS, nC, gS, gC, e1, hy, h1, h2, h3, h4⟩ := h j hj
  exact ⟨ru, sA, cl, cS, cc, nS, nC, gS, gC, e1, hy, h1, h2, va_K.moved (u := U) (U := U.calling g mk a) (Vm.Alike.refl U.vm) h3, h4⟩
theorem kSh_give {dC : Nat → ClassId} {dI : Nat → Nat → Nat} {kl : Nat} {gL : Nat → Option Nat} {yL : Nat → List kTr} {M9 : Nat} {A B : Nat → Prop} {s : State} {H : Heap} {locs : List Loc} (h : kSh dC dI kl gL yL M9 A s) (hS : va_S A s.heap H locs) (hB : ∀ q, B q → A q) : ∀ U : State, U.heap = H → s.WarmedH U.vm → kSh dC dI kl gL yL M9 B U := fun U hU hW j hj => by
  obtain ⟨ru, sA, cl, cS, cc, nS, nC, gS, gC, e1, hy, h1, h2, h3, h4⟩ := h j hj
  exact ⟨ru, sA, cl, cS, cc, nS, nC, gS, gC, e1, hy, h1, h2, va_K.moved hW.alike h3, by rw [hU]; exact kFz_at h4 hS, fun k q hk z => h4.2 k q hk (hB _ z)⟩
/-- both shelves, and the links of nest mates -/
def kPub (dC : Nat → ClassId) (dI : Nat → Nat → Nat) (kl : Nat) (gL : Nat → Option Nat) (yL : Nat → List kTr) (ku : Nat) (gU : Nat → Option Nat) (yU : Nat → List kTr) (A : Nat → Prop) (U : State) : Prop := (kSh dC dI kl gL yL 8 A U ∧ kSh dC dI ku gU yU 5 A U) ∧ kNL U
theorem kPub_blind {dC : Nat → ClassId} {dI : Nat → Nat → Nat} {kl : Nat} {gL : Nat → Option Nat} {yL : Nat → List kTr} {ku : Nat} {gU : Nat → Option Nat} {yU : Nat → List kTr} {A : Nat → Prop} : ∀ (U : State) (g : JFrame) (mk : MethodId) (a : Array Value), kPub dC dI kl gL yL ku gU yU A U → kPub dC dI kl gL yL ku gU yU A (U.calling g mk a) := fun U g mk a h => ⟨⟨kSh_blind U g mk a h.1.1, kSh_blind U g mk a h.1.2⟩, kNL_blind U g mk a h.2⟩
theorem kPub_give {dC : Nat → ClassId} {dI : Nat → Nat → Nat} {kl : Nat} {gL : Nat → Option Nat} {yL : Nat → List kTr} {ku : Nat} {gU : Nat → Option Nat} {yU : Nat → List kTr} {A B : Nat → Prop} {s : State} {H : Heap} {locs : List Loc} (h : kPub dC dI kl gL yL ku gU yU A s) (hS : va_S A s.heap H locs) (hB : ∀ q, B q → A q) : ∀ U : State, U.heap = H → s.WarmedH U.vm → kPub dC dI kl gL yL ku gU yU B U := fun U hU hW => ⟨⟨kSh_give h.1.1 hS hB U hU hW, kSh_give h.1.2 hS hB U hU hW⟩, kNL_give h.2 U hU hW⟩
/-- arrays of ints can be cloned -/
def kCl (U : State) : Prop := va_Nw (.castable "[I" "java/lang/Cloneable") U
theorem kCl_blind : ∀ (U : State) (g : JFrame) (mk : MethodId) (a : Array Value), kCl U → kCl (U.calling g mk a) := fun U _ _ _ h => va_Nw.same (u := U) rfl rfl h
theorem kCl_give {s : State} {H : Heap} (h : kCl s) : ∀ U : State, U.heap = H → s.WarmedH U.vm → kCl U := fun _ _ hW => va_Nw.warmC hW h
/-- a shelf after a text: as before, or one rule more, of three cells that are new -/
def kShN (dC : Nat → ClassId) (dI : Nat → Nat → Nat) (kl : Nat) (gL : Nat → Option Nat) (kl1 : Nat) (gL1 : Nat → Option Nat) (Y9 : List kTr) (M9 : Nat) (sz : Nat) (t : State) : Prop := (kl1 = kl ∧ gL1 = gL) ∨ (kl1 = kl + 1 ∧ ∃ (ru sA cl : Nat) (cS cc : ClassId) (nS nC : Nat) (gS gC : Nat → Int32), gL1 = va_up gL kl (some ru) ∧ kRu Y9 M9 nS nC gS gC ∧ nS ≤ 200 ∧ nC ≤ 200 ∧ va_K (dC, dI) vwCl [(cS, .int), (cc, .int)] t ∧ va_P (dC, dI) vwCl [(ru, .inr (6, [.ref sA, .ref cl])), (sA, .inl (cS, nS, .inl gS)), (cl, .inl (cc, nC, .inl gC))] t.heap ∧ sz ≤ ru ∧ sz ≤ sA ∧ sz ≤ cl)
/-- a cell of the world that is none of the first ones is new -/
theorem kFresh {W0 ws : va_W} {sz : Nat} {A : Nat → Prop} (hD : va_D A ws) (hAe : va_A W0 sz = A) (i : Nat) {q : Nat × va_E} (hi : ws[i]? = some q) (is : List Nat) (hW : W0.map (fun z => some z.1) = is.map (fun j => (ws[j]?).map (fun z => z.1))) (hn : ¬ i ∈ is) : sz ≤ q.1 := by
  have h := hD.2 i q hi
  rw [← hAe] at h
  rcases h with ⟨k, e, hk⟩ | h
  · exfalso
    have h1 : (W0.map (fun z => some z.1))[k]? = some (some q.1) := by rw [List.getElem?_map, hk]; rfl
    rw [hW, List.getElem?_map] at h1
    cases hj : is[k]? with
    | none => rw [hj] at h1; cases h1
    | some j =>
      rw [hj] at h1
      have h2 : (ws[j]?).map (fun z => z.1) = some q.1 := Option.some.inj h1
      cases hp : ws[j]? with
      | none => rw [hp] at h2; cases h2
      | some p9 =>
        rw [hp] at h2
        have h3 : p9.1 = q.1 := Option.some.inj h2
        have h4 := hD.1 j i p9 q hp hi h3
        exact hn (h4 ▸ List.mem_of_getElem? hj)
  · exact h
def kSort (p : Int32) : Int32 := if p = 0 then 1 else if p = 1 then 1 else 0
theorem kSort_or {p : Int32} (h : ¬ kSort p = 0) : p = 0 ∨ p = 1 := by
  unfold kSort at h
  by_cases h0 : p = 0
  · exact Or.inl h0
  · by_cases h1 : p = 1
    · exact Or.inr h1
    · rw [if_neg h0, if_neg h1] at h; exact absurd rfl h
theorem kSw7 (x : Int32) : x = 0 ∨ x = 1 ∨ x = 2 ∨ x = 3 ∨ x = 4 ∨ x = 5 ∨ x = 6 ∨ (x.toInt < 0 ∨ 6 < x.toInt) := by
  by_cases h : x.toInt < 0 ∨ 6 < x.toInt
  · simp [h]
  · have : x.toInt = 0 ∨ x.toInt = 1 ∨ x.toInt = 2 ∨ x.toInt = 3 ∨ x.toInt = 4 ∨ x.toInt = 5 ∨ x.toInt = 6 := by omega
    rcases this with e | e | e | e | e | e | e
    · exact Or.inl (Int32.toInt_inj.mp e)
    · exact Or.inr (Or.inl (Int32.toInt_inj.mp e))
    · exact Or.inr (Or.inr (Or.inl (Int32.toInt_inj.mp e)))
    · exact Or.inr (Or.inr (Or.inr (Or.inl (Int32.toInt_inj.mp e))))
    · exact Or.inr (Or.inr (Or.inr (Or.inr (Or.inl (Int32.toInt_inj.mp e)))))
    · exact Or.inr (Or.inr (Or.inr (Or.inr (Or.inr (Or.inl (Int32.toInt_inj.mp e))))))
    · exact Or.inr (Or.inr (Or.inr (Or.inr (Or.inr (Or.inr (Or.inl (Int32.toInt_inj.mp e)))))))
theorem kA_int (n : Nat) : ∀ cA : ClassId, vp_cell cA (n, .inl (fun _ => 0)) = arrV cA n (fun _ => defaultValue .int) := fun _ => rfl
theorem kA_char (n : Nat) : ∀ cA : ClassId, vp_cell cA (n, .inl (fun _ => 0)) = arrV cA n (fun _ => defaultValue .char) := fun _ => rfl
theorem kA_byte (n : Nat) : ∀ cA : ClassId, vp_cell cA (n, .inl (fun _ => 0)) = arrV cA n (fun _ => defaultValue .byte) := fun _ => rfl
theorem kA_boolean (n : Nat) : ∀ cA : ClassId, vp_cell cA (n, .inl (fun _ => 0)) = arrV cA n (fun _ => defaultValue .boolean) := fun _ => rfl
theorem kA_long (n : Nat) : ∀ cA : ClassId, vp_cell cA (n, .inr (.inl (fun _ => 0))) = arrV cA n (fun _ => defaultValue .long) := fun _ => rfl
def kWordA (p : Int32) (kw : Nat) : Int32 := if kIn p 0 47 = 0 then -1 else if kw < 4 then nI (kw + 1) else -1
def kWordN (p : Int32) (kw : Nat) : Nat := if kIn p 0 47 = 0 then kw else if kw < 4 then kw + 1 else kw
theorem kNzr {r E : Int32} (h : r = E) (c : ¬ r = 0) : ¬ E = 0 := fun z => c (h.trans z)
theorem kZr {r E : Int32} (h : r = E) (c : r = 0) : E = 0 := h.symm.trans c
def kPn (p : Int32) (k : Nat) : Int32 := if p < 0 then 0 else if p < nI k then 1 else 0
theorem kPn_nI {j k : Nat} (hj : j < 2 ^ 31) (hk : k < 2 ^ 31) : kPn (nI j) k = if j < k then 1 else 0 := by
  unfold kPn
  rw [if_neg (nI_pos (n := j) hj)]
  by_cases z : nI j < nI k
  · have h := klt (a := j) (b := k) (by omega) (by omega) z
    rw [if_pos z, if_pos h]
  · have h := knlt (a := j) (b := k) (by omega) (by omega) z
    rw [if_neg z, if_neg (by omega)]
def kPerA (p q u : Int32) (k : Nat) : Int32 := if kIn p 0 100 = 0 then -1 else if kIn q 0 99 = 0 then -1 else if kIn u 0 3 = 0 then -1 else if k < 10 then nI k else -1
def kPerN (p q u : Int32) (k : Nat) : Nat := if kIn p 0 100 = 0 then k else if kIn q 0 99 = 0 then k else if kIn u 0 3 = 0 then k else if k < 10 then k + 1 else k
theorem kPerN_b {p q u : Int32} {k : Nat} (h : k ≤ 10) : k ≤ kPerN p q u k ∧ kPerN p q u k ≤ 10 := by
  unfold kPerN
  split
  · omega
  · split
    · omega
    · split
      · omega
      · split <;> omega
def kKnow (a b : Int32) (k : Nat) : Int32 := if kPn a k = 0 then 0 else if kPn b k = 0 then 0 else if a = b then 0 else 1
def kNoteK (k v o : Int32) : Int32 := if k = 0 then (if kIn v 0 100 = 0 then 0 else if kIn o 0 50 = 0 then 0 else 1) else if k = 1 then kIn v (-1) 3 else 0
def kNoteA (p h k v o : Int32) (ks kn : Nat) : Int32 := if kPn p ks = 0 then -1 else if kIn h 0 48 = 0 then -1 else if kNoteK k v o = 0 then -1 else if kn < 20 then nI (kn + 1) else -1
def kNoteN (p h k v o : Int32) (ks kn : Nat) : Nat := if kPn p ks = 0 then kn else if kIn h 0 48 = 0 then kn else if kNoteK k v o = 0 then kn else if kn < 20 then kn + 1 else kn
theorem kIn_m1 : kIn (-1) (-1) 3 = 1 := by decide
theorem kHouseN {v : Int32} (h1 : ¬ v = -1) (h2 : kIn v 0 3 = 0) : kIn v (-1) 3 = 0 := by
  unfold kIn at h2 ⊢
  by_cases a : v < 0
  · have : v < -1 := by
      rw [Int32.lt_iff_toInt_lt] at a ⊢
      have h3 : ¬ v.toInt = (-1 : Int32).toInt := fun z => h1 (Int32.toInt_inj.mp z)
      have e0 : (0 : Int32).toInt = 0 := rfl
      have e1 : (-1 : Int32).toInt = -1 := rfl
      rw [e1] at h3 ⊢; rw [e0] at a
      omega
    rw [if_pos this]
  · rw [if_neg a] at h2
    split
    · rfl
    · exact h2
theorem kHouseY {v : Int32} (h2 : ¬ kIn v 0 3 = 0) : ¬ kIn v (-1) 3 = 0 := by
  unfold kIn at h2 ⊢
  by_cases a : v < 0
  · rw [if_pos a] at h2; exact absurd rfl h2
  · rw [if_neg a] at h2
    have : ¬ v < -1 := fun z => a (by
      rw [Int32.lt_iff_toInt_lt] at z ⊢
      have e0 : (0 : Int32).toInt = 0 := rfl
      have e1 : (-1 : Int32).toInt = -1 := rfl
      rw [e1] at z; rw [e0]; omega)
    rw [if_neg this]
    exact h2
def kLetsA (p o : Int32) (ku : Nat) (y : Nat → List kTr) : Int32 := if kPn p ku = 0 then -1 else if kIn o 0 31 = 0 then -1 else kLet o (y (Int32.toNatClampNeg p))
def kBol (a b : Nat) : Int32 := if a = b then 0 else if a &&& b = b then 1 else 0
def kBolA (p q : Int32) (ku : Nat) (y : Nat → List kTr) : Int32 := if kPn p ku = 0 then -1 else if kPn q ku = 0 then -1 else kBol (kBar (y (Int32.toNatClampNeg p))) (kBar (y (Int32.toNatClampNeg q)))
theorem kCpy {g h : Nat → Int32} {pn j : Nat} (hp : pn < 2 ^ 31) (hj : j < pn) : va_cpy g h (Int32.toNatClampNeg 0) (Int32.toNatClampNeg 0) (Int32.toNatClampNeg (nI pn)) j = g j := by
  have h0 : Int32.toNatClampNeg 0 = 0 := by decide
  unfold va_cpy
  rw [nI_clamp hp, h0, if_pos ⟨Nat.zero_le j, by omega⟩]
  congr 1
  omega
theorem kAtWy {r : Option Nat} {g : Nat → Option Nat} {k : Nat} {p : Int32} (h : (r = none ∧ kPn p k = 0) ∨ (kPn p k = 1 ∧ ∃ j : Nat, j < k ∧ p = nI j ∧ r = g j)) : r = none ∨ ∃ j : Nat, j < k ∧ r = g j := h.elim (fun z => Or.inl z.1) (fun z => Or.inr (by obtain ⟨_, j, h1, _, h2⟩ := z; exact ⟨j, h1, h2⟩))
theorem kSh_gety {dC : Nat → ClassId} {dI : Nat → Nat → Nat} {kl : Nat} {gL : Nat → Option Nat} {yL : Nat → List kTr} {M9 : Nat} {A : Nat → Prop} {s : State} (h : kSh dC dI kl gL yL M9 A s) {ru : Nat} {p : Int32} (hw : (some ru = none ∧ kPn p kl = 0) ∨ (kPn p kl = 1 ∧ ∃ j : Nat, j < kl ∧ p = nI j ∧ some ru = gL j)) : ∃ (j : Nat) (sA cl : Nat) (cS cc : ClassId) (nS nC : Nat) (gS gC : Nat → Int32), j < kl ∧ p = nI j ∧ kPn p kl = 1 ∧ kRu (yL j) M9 nS nC gS gC ∧ nS ≤ 200 ∧ nC ≤ 200 ∧ va_K (dC, dI) vwCl [(cS, .int), (cc, .int)] s ∧ (va_P (dC, dI) vwCl [(ru, .inr (6, [.ref sA, .ref cl])), (sA, .inl (cS, nS, .inl gS)), (cl, .inl (cc, nC, .inl gC))] s.heap ∧ ∀ (k : Nat) (q : Nat × va_E), ([(ru, .inr (6, [.ref sA, .ref cl])), (sA, .inl (cS, nS, .inl gS)), (cl, .inl (cc, nC, .inl gC))] : va_W)[k]? = some q → ¬ A q.1) := by
  rcases hw with z | ⟨hn, j, hj, hp, e⟩
  · cases z.1
  · obtain ⟨ru2, sA, cl, cS, cc, nS, nC, gS, gC, e1, hy, h1, h2, h3, h4⟩ := h j hj
    cases e.trans e1
    exact ⟨j, sA, cl, cS, cc, nS, nC, gS, gC, hj, hp, hn, hy, h1, h2, h3, h4⟩
theorem kPn_none {p : Int32} {r : Option Nat} {g : Nat → Option Nat} {k : Nat} (h : (r = none ∧ kPn p k = 0) ∨ (kPn p k = 1 ∧ ∃ j : Nat, j < k ∧ p = nI j ∧ r = g j)) (hn : r = none) (hs : ∀ j : Nat, j < k → ∃ a : Nat, g j = some a) : kPn p k = 0 := by
  rcases h with h | ⟨_, j, hj, _, e⟩
  · exact h.2
  · obtain ⟨a, ea⟩ := hs j hj
    rw [hn, ea] at e
    cases e
theorem kBol_0 {x y : Int32} {a b : Nat} (hx : x = nI a) (hy : y = nI b) (ha : a < 2 ^ 32) (hb : b < 2 ^ 32) (c : x = y) : 0 = kBol a b := by
  have h := nI_inj32 ha hb (hx.symm.trans (c.trans hy))
  unfold kBol
  rw [if_pos h]
theorem kBol_1 {x y z : Int32} {a b : Nat} (hx : x = nI a) (hy : y = nI b) (ha : a < 2 ^ 32) (hb : b < 2 ^ 32) (c : ¬ x = y) (ez : z = x &&& y) (c2 : z = y) : 1 = kBol a b := by
  have h : ¬ a = b := fun e => c (by rw [hx, hy, e])
  have h2 : a &&& b = b := nI_inj32 (Nat.lt_of_le_of_lt Nat.and_le_right hb) hb (by rw [← nI_and5, ← hx, ← hy, ← ez]; exact c2)
  unfold kBol
  rw [if_neg h, if_pos h2]
theorem kBol_2 {x y z : Int32} {a b : Nat} (hx : x = nI a) (hy : y = nI b) (c : ¬ x = y) (ez : z = x &&& y) (c2 : ¬ z = y) : 0 = kBol a b := by
  have h : ¬ a = b := fun e => c (by rw [hx, hy, e])
  have h2 : ¬ a &&& b = b := fun e => c2 (by rw [ez, hx, hy, nI_and5, e])
  unfold kBol
  rw [if_neg h, if_neg h2]
def kIsB (a b : Int32) : Int32 := if (a >>> (b &&& 31)) &&& 1 = 0 then 0 else 1
theorem kIsB_nar (a b : Int32) : narrow .boolean (.int (kIsB a b)) = .int (kIsB a b) := by unfold kIsB; split <;> rfl
theorem kIsB_F : ∀ (v : Fin 1024) (j : Fin 10), kIsB (nI v.val) (nI j.val) = if v.val.testBit j.val then 1 else 0 := by decide +kernel
theorem kIsB_n {v j : Nat} (hv : v < 1024) (hj : j < 10) : kIsB (nI v) (nI j) = if v.testBit j then 1 else 0 := kIsB_F ⟨v, hv⟩ ⟨j, hj⟩
def kActK (k x p : Int32) (ks : Nat) : Int32 := if k = 0 then kIn x 0 99 else if k = 1 then kIn x 0 3 else if k = 2 then (if kPn x ks = 0 then 0 else if x = p then 0 else 1) else 0
def kActA (p k x c : Int32) (ks : Nat) (se : Int32) (ka : Nat) : Int32 := if kPn p ks = 0 then -1 else if ¬ se = 0 then -1 else if kIn c 1 50 = 0 then -1 else if kActK k x p ks = 0 then -1 else if ka < 6 then nI ka else -1
def kActN (p k x c : Int32) (ks : Nat) (se : Int32) (ka : Nat) : Nat := if kPn p ks = 0 then ka else if ¬ se = 0 then ka else if kIn c 1 50 = 0 then ka else if kActK k x p ks = 0 then ka else if ka < 6 then ka + 1 else ka
def kSnN (p q u w : Int32) (k sv : Nat) : Nat := if kPerN p q u k = k then sv else if w = 0 then sv else sv ||| 2 ^ k
def kSen (p q u w : Int32) (k : Nat) (f : Nat → Int32) : Nat → Int32 := if kPerN p q u k = k then f else upd f k (vp_nar .boolean w)
theorem kPerN_ok {p q u : Int32} {k : Nat} (h1 : ¬ kIn p 0 100 = 0) (h2 : ¬ kIn q 0 99 = 0) (h3 : ¬ kIn u 0 3 = 0) : kPerN p q u k = if k < 10 then k + 1 else k := by unfold kPerN; rw [if_neg h1, if_neg h2, if_neg h3]
theorem kPerN_or (p q u : Int32) (k : Nat) : kPerN p q u k = k ∨ (kPerN p q u k = k + 1 ∧ k < 10) := by
  unfold kPerN
  split
  · exact Or.inl rfl
  · split
    · exact Or.inl rfl
    · split
      · exact Or.inl rfl
      · split
        · exact Or.inr ⟨rfl, by assumption⟩
        · exact Or.inl rfl
theorem kSe_new {p q u w : Int32} (hw : w = 0 ∨ w = 1) {ks sv : Nat} {f : Nat → Int32} (hks : ks ≤ 10) (hsv : sv < 1024) (hb : sv < 2 ^ ks) (H : ∀ j : Nat, j < ks → (f j = 0 ↔ kIsB (nI sv) (nI j) = 0)) : (∀ j : Nat, j < kPerN p q u ks → (kSen p q u w ks f j = 0 ↔ kIsB (nI (kSnN p q u w ks sv)) (nI j) = 0)) ∧ kSnN p q u w ks sv < 2 ^ kPerN p q u ks := by
  rcases kPerN_or p q u ks with e | ⟨e, hk⟩
  · unfold kSen kSnN
    rw [e, if_pos rfl, if_pos rfl]
    exact ⟨H, hb⟩
  · have hne : ¬ ks + 1 = ks := by omega
    unfold kSen kSnN
    rw [e, if_neg hne, if_neg hne]
    have hp : 2 ^ ks < 2 ^ (ks + 1) := by rw [Nat.pow_succ]; have := Nat.one_le_two_pow (n := ks); omega
    have hlt : sv ||| 2 ^ ks < 2 ^ (ks + 1) := Nat.or_lt_two_pow (by omega) hp
    have h10 : 2 ^ (ks + 1) ≤ 1024 := (Nat.pow_le_pow_right (by decide) (by omega) : 2 ^ (ks + 1) ≤ 2 ^ 10)
    have hz : sv.testBit ks = false := Nat.testBit_lt_two_pow hb
    constructor
    · intro j hj
      by_cases ej : j = ks
      · subst ej
        have eu : upd f j (vp_nar .boolean w) j = vp_nar .boolean w := by unfold upd; rw [if_pos rfl]
        rw [eu]
        rcases hw with rfl | rfl
        · rw [if_pos rfl, kIsB_n hsv (by omega), hz]
          exact ⟨fun _ => rfl, fun _ => rfl⟩
        · rw [if_neg (by decide), kIsB_n (by omega) (by omega), Nat.testBit_or, Nat.testBit_two_pow_self, Bool.or_true]
          exact ⟨fun z => absurd z (by decide), fun z => absurd z (by decide)⟩
      · have eu : upd f ks (vp_nar .boolean w) j = f j := by unfold upd; rw [if_neg ej]
        rw [eu, H j (by omega)]
        rcases hw with rfl | rfl
        · rw [if_pos rfl]
        · rw [if_neg (by decide), kIsB_n hsv (by omega), kIsB_n (by omega) (by omega), Nat.testBit_or, Nat.testBit_two_pow_of_ne (by omega), Bool.or_false]
    · rcases hw with rfl | rfl
      · rw [if_pos rfl]; omega
      · rw [if_neg (by decide)]; exact hlt
theorem kAct_se {p k x c se s2 : Int32} {ks ka : Nat} (H : ¬ kPn p ks = 0 → (se = 0 ↔ s2 = 0)) : kActA p k x c ks se ka = kActA p k x c ks s2 ka ∧ kActN p k x c ks se ka = kActN p k x c ks s2 ka := by
  unfold kActA kActN
  by_cases h : kPn p ks = 0
  · rw [if_pos h, if_pos h, if_pos h, if_pos h]; exact ⟨rfl, rfl⟩
  · rw [if_neg h, if_neg h, if_neg h, if_neg h]
    by_cases z : se = 0
    · rw [if_neg (not_not_intro z), if_neg (not_not_intro z), if_neg (not_not_intro ((H h).mp z)), if_neg (not_not_intro ((H h).mp z))]; exact ⟨rfl, rfl⟩
    · have y : ¬ s2 = 0 := fun y => z ((H h).mpr y)
      rw [if_pos z, if_pos z, if_pos y, if_pos y]; exact ⟨rfl, rfl⟩
theorem kActN_le {p k x c se : Int32} {ks ka : Nat} (h : ka ≤ 6) : kActN p k x c ks se ka ≤ 6 := by
  unfold kActN
  split
  · exact h
  · split
    · exact h
    · split
      · exact h
      · split
        · exact h
        · split <;> omega
/-- the class's texts, its nest mates' links, and that arrays can be cloned -/
def kTxt (ad : Nat → Nat) (bA nA : Nat) (xA : Nat → Int32) (bB nB : Nat) (xB : Nat → Int32) (bE nE : Nat) (xE : Nat → Int32) (bG nG : Nat) (xG : Nat → Int32) (A : Nat → Prop) (U : State) : Prop := kRd ad 1 3 bA nA xA bB nB xB A U ∧ kRd ad 2 4 bE nE xE bG nG xG A U ∧ kNL U ∧ kCl U
theorem kTxt_blind {ad : Nat → Nat} {bA nA : Nat} {xA : Nat → Int32} {bB nB : Nat} {xB : Nat → Int32} {bE nE : Nat} {xE : Nat → Int32} {bG nG : Nat} {xG : Nat → Int32} {A : Nat → Prop} : ∀ (U : State) (g : JFrame) (mk : MethodId) (a : Array Value), kTxt ad bA nA xA bB nB xB bE nE xE bG nG xG A U → kTxt ad bA nA xA bB nB xB bE nE xE bG nG xG A (U.calling g mk a) := fun U g mk a h => ⟨kRd_blind U g mk a h.1, kRd_blind U g mk a h.2.1, kNL_blind U g mk a h.2.2.1, kCl_blind U g mk a h.2.2.2⟩
theorem kTxt_give {ad : Nat → Nat} {bA nA : Nat} {xA : Nat → Int32} {bB nB : Nat} {xB : Nat → Int32} {bE nE : Nat} {xE : Nat → Int32} {bG nG : Nat} {xG : Nat → Int32} {A B : Nat → Prop} {s : State} {H : Heap} {locs : List Loc} (h : kTxt ad bA nA xA bB nB xB bE nE xE bG nG xG A s) (hS : va_S A s.heap H locs) (hB : ∀ q, B q → A q) : ∀ U : State, U.heap = H → s.WarmedH U.vm → kTxt ad bA nA xA bB nB xB bE nE xE bG nG xG B U := fun U hU hW => ⟨kRd_give h.1 hS hB U hU hW, kRd_give h.2.1 hS hB U hU hW, kNL_give h.2.2.1 U hU hW, kCl_give h.2.2.2 U hU hW⟩
theorem kTc_z {s : Int32} {o0 o1 : Bool} {kl ku : Nat} (h : kSort s = 0) : kTc s o0 o1 kl ku = 0 := by
  unfold kSort at h
  unfold kTc
  by_cases h0 : s = 0
  · rw [if_pos h0] at h; exact absurd h (by decide)
  · rw [if_neg h0] at h ⊢
    by_cases h1 : s = 1
    · rw [if_pos h1] at h; exact absurd h (by decide)
    · rw [if_neg h1]
theorem kFtA_z {s : Int32} {o0 o1 : Bool} {p0 p1 : Nat} (h : kSort s = 0) : kFtA s o0 p0 o1 p1 = -2 := by
  unfold kSort at h
  unfold kFtA
  by_cases h0 : s = 0
  · rw [if_pos h0] at h; exact absurd h (by decide)
  · rw [if_neg h0] at h ⊢
    by_cases h1 : s = 1
    · rw [if_pos h1] at h; exact absurd h (by decide)
    · rw [if_neg h1]
theorem kFullN {kh nH : Nat} {r : Int32} (h : r = (if kh < nH then 0 else 1)) (c : ¬ r = 0) : nH ≤ kh := by
  by_cases z : kh < nH
  · rw [if_pos z] at h; exact absurd h c
  · omega
theorem kAtW {r : Option Nat} {g : Nat → Option Nat} {k : Nat} {p : Int32} (h : (r = none ∧ kPn p k = 0) ∨ (kPn p k = 1 ∧ ∃ j : Nat, j < k ∧ r = g j)) : r = none ∨ ∃ j : Nat, j < k ∧ r = g j := h.elim (fun z => Or.inl z.1) (fun z => Or.inr z.2)
def kSayA (p t : Int32) (ks ku : Nat) : Int32 := if kPn p ks = 0 then 0 else if t = -1 then 1 else kPn t ku
theorem kCtA_d {w : Int32} {kl ku ks kw kn ka kt : Nat} (h : w.toInt < 0 ∨ 6 < w.toInt) : kCtA w kl ku ks kw kn ka kt = -1 := by
  have H : ∀ n : Int32, (0 ≤ n.toInt ∧ n.toInt ≤ 6) → ¬ w = n := fun n hn z => by rw [z] at h; omega
  unfold kCtA
  rw [if_neg (H 0 (by decide)), if_neg (H 1 (by decide)), if_neg (H 2 (by decide)), if_neg (H 3 (by decide)), if_neg (H 4 (by decide)), if_neg (H 5 (by decide)), if_neg (H 6 (by decide))]
