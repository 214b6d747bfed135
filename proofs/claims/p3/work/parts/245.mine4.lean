/-- kl texts on a shelf: each is a rule whose three cells lie in the heap, none of them in A -/
def kSh (dC : Nat → ClassId) (dI : Nat → Nat → Nat) (kl : Nat) (gL : Nat → Option Nat) (yL : Nat → List kTr) (M9 : Nat) (A : Nat → Prop) (U : State) : Prop := ∀ j : Nat, j < kl → ∃ (ru sA cl : Nat) (cS cc : ClassId) (nS nC : Nat) (gS gC : Nat → Int32), gL j = some ru ∧ kRu (yL j) M9 nS nC gS gC ∧ nS ≤ 200 ∧ nC ≤ 200 ∧ va_K (dC, dI) vwCl [(cS, .int), (cc, .int)] U ∧ (va_P (dC, dI) vwCl [(ru, .inr (6, [.ref sA, .ref cl])), (sA, .inl (cS, nS, .inl gS)), (cl, .inl (cc, nC, .inl gC))] U.heap ∧ ∀ (k : Nat) (q : Nat × va_E), ([(ru, .inr (6, [.ref sA, .ref cl])), (sA, .inl (cS, nS, .inl gS)), (cl, .inl (cc, nC, .inl gC))] : va_W)[k]? = some q → ¬ A q.1)
theorem kSh_blind {dC : Nat → ClassId} {dI : Nat → Nat → Nat} {kl : Nat} {gL : Nat → Option Nat} {yL : Nat → List kTr} {M9 : Nat} {A : Nat → Prop} : ∀ (U : State) (g : JFrame) (mk : MethodId) (a : Array Value), kSh dC dI kl gL yL M9 A U → kSh dC dI kl gL yL M9 A (U.calling g mk a) := fun U g mk a h j hj => by
  obtain ⟨ru, sA, cl, cS, cc, nS, nC, gS, gC, e1, hy, h1, h2, h3, h4⟩ := h j hj
  exact ⟨ru, sA, cl, cS, cc, nS, nC, gS, gC, e1, hy, h1, h2, va_K.moved (u := U) (U := U.calling g mk a) (Vm.Alike.refl U.vm) h3, h4⟩
/-- both shelves, and the links of nest mates -/
def kPub (dC : Nat → ClassId) (dI : Nat → Nat → Nat) (kl : Nat) (gL : Nat → Option Nat) (yL : Nat → List kTr) (ku : Nat) (gU : Nat → Option Nat) (yU : Nat → List kTr) (A : Nat → Prop) (U : State) : Prop := (kSh dC dI kl gL yL 8 A U ∧ kSh dC dI ku gU yU 5 A U) ∧ kNL U
theorem kPub_blind {dC : Nat → ClassId} {dI : Nat → Nat → Nat} {kl : Nat} {gL : Nat → Option Nat} {yL : Nat → List kTr} {ku : Nat} {gU : Nat → Option Nat} {yU : Nat → List kTr} {A : Nat → Prop} : ∀ (U : State) (g : JFrame) (mk : MethodId) (a : Array Value), kPub dC dI kl gL yL ku gU yU A U → kPub dC dI kl gL yL ku gU yU A (U.calling g mk a) := fun U g mk a h => ⟨⟨kSh_blind U g mk a h.1.1, kSh_blind U g mk a h.1.2⟩, kNL_blind U g mk a h.2⟩
/-- arrays of ints can be cloned -/
def kCl (U : State) : Prop := va_Nw (.castable "[I" "java/lang/Cloneable") U
def kPn (p : Int32) (k : Nat) : Int32 := if p < 0 then 0 else if p < nI k then 1 else 0
def kIsB (a b : Int32) : Int32 := if (a >>> (b &&& 31)) &&& 1 = 0 then 0 else 1
/-- the class's texts, its nest mates' links, and that arrays can be cloned -/
def kTxt (ad : Nat → Nat) (bA nA : Nat) (xA : Nat → Int32) (bB nB : Nat) (xB : Nat → Int32) (bE nE : Nat) (xE : Nat → Int32) (bG nG : Nat) (xG : Nat → Int32) (A : Nat → Prop) (U : State) : Prop := kRd ad 1 3 bA nA xA bB nB xB A U ∧ kRd ad 2 4 bE nE xE bG nG xG A U ∧ kNL U ∧ kCl U
