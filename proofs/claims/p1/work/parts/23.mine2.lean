/-- the bytes of a text -/
def kTx (l : List Int32) : Nat → Int32 := fun j => l.getD j 0
/-- what the library's text methods read beside a text -/
def kJ (A : Nat → Prop) (U : State) : Prop := va_Z "java/lang/String" "COMPACT_STRINGS" "Z" (.int 1) A U U.heap ∧ va_Zq "jdk/internal/util/Preconditions" "SIOOBE_FORMATTER" "Ljava/util/function/BiFunction;" A U U.heap
/-- a constant text at q, its n bytes g at b, none of these cells in A -/
def kSt (q b n : Nat) (g : Nat → Int32) (A : Nat → Prop) (U : State) : Prop := va_O "java/lang/String" q A U U.heap ∧ va_OF "java/lang/String" "coder" "B" (.int 0) q A U U.heap ∧ va_OF "java/lang/String" "value" "[B" (.ref b) q A U U.heap ∧ va_T .byte b n (fun j => .int (g j)) A U U.heap ∧ kJ A U
theorem kJ_to {A B : Nat → Prop} {u U : State} (hvm : u.vm.Alike U.vm) (hq : ∀ a : Nat, a < u.heap.size → ¬ A a → U.heap[a]? = u.heap[a]?) (hB : ∀ q, B q → A q) (h : kJ A u) : kJ B U :=
  ⟨va_Z.narrow (va_Z.moved hvm (h.1.kept hq)) hB, va_Zq.narrow (va_Zq.moved hvm (h.2.kept hq)) hB⟩
theorem kSt_to {q b n : Nat} {g : Nat → Int32} {A B : Nat → Prop} {u U : State} (hvm : u.vm.Alike U.vm) (hq : ∀ a : Nat, a < u.heap.size → ¬ A a → U.heap[a]? = u.heap[a]?) (hB : ∀ q, B q → A q) (h : kSt q b n g A u) : kSt q b n g B U :=
  ⟨va_O.narrow (va_O.moved hvm (h.1.kept hq)) hB, va_OF.narrow (va_OF.moved hvm (h.2.1.kept hq)) hB, va_OF.narrow (va_OF.moved hvm (h.2.2.1.kept hq)) hB, va_T.narrow (va_T.moved hvm (h.2.2.2.1.kept hq)) hB, kJ_to hvm hq hB h.2.2.2.2⟩
theorem kSt_blind {q b n : Nat} {g : Nat → Int32} {A : Nat → Prop} : ∀ (U : State) (k : JFrame) (mk : MethodId) (a : Array Value), kSt q b n g A U → kSt q b n g A (U.calling k mk a) := fun U _ _ _ h => kSt_to (u := U) (Vm.Alike.refl U.vm) (fun _ _ _ => rfl) (fun _ h => h) h
theorem kSt_give {q b n : Nat} {g : Nat → Int32} {A : Nat → Prop} {s : State} {H : Heap} {locs : List Loc} (h : kSt q b n g A s) (hS : va_S A s.heap H locs) : ∀ U : State, U.heap = H → s.WarmedH U.vm → kSt q b n g A U := fun U hU hW => kSt_to hW.alike (fun a h1 h2 => by rw [hU]; exact hS.2.1 a h1 h2) (fun _ h => h) h
theorem kSt_giveB {q b n : Nat} {g : Nat → Int32} {A B : Nat → Prop} {s : State} {H : Heap} {locs : List Loc} (h : kSt q b n g A s) (hS : va_S A s.heap H locs) (hB : ∀ q, B q → A q) : ∀ U : State, U.heap = H → s.WarmedH U.vm → kSt q b n g B U := fun U hU hW => kSt_to hW.alike (fun a h1 h2 => by rw [hU]; exact hS.2.1 a h1 h2) hB h
theorem kSt_recv {q b n : Nat} {g : Nat → Int32} {A : Nat → Prop} {s : State} {H : Heap} {locs : List Loc} (h : kSt q b n g A s) (hS : va_S A s.heap H locs) : ∃ cell : Cell, H[q]? = some cell ∧ cell.vm.isStatics = false ∧ s.vm.findClass "java/lang/String" = some cell.cls := by
  obtain ⟨cell, h1, h2, h3, -⟩ := h.1.kept hS.2.1
  exact ⟨cell, h1, h2, h3⟩
/-- texts' places, and the two label texts -/
def kF (ad : Nat → Nat) (i j : Nat) (bA bB : Nat) (A : Nat → Prop) (U : State) : Prop := kLit ad U ∧ kSt (ad i) bA 3 (kTx [121, 103, 120]) A U ∧ kSt (ad j) bB 1 (kTx [119]) A U
theorem kF_blind {ad : Nat → Nat} {i j bA bB : Nat} {A : Nat → Prop} : ∀ (U : State) (k : JFrame) (mk : MethodId) (a : Array Value), kF ad i j bA bB A U → kF ad i j bA bB A (U.calling k mk a) := fun U k mk a h => ⟨kLit_blind U k mk a h.1, kSt_blind U k mk a h.2.1, kSt_blind U k mk a h.2.2⟩
theorem kF_give {ad : Nat → Nat} {i j bA bB : Nat} {A B : Nat → Prop} {s : State} {H : Heap} {locs : List Loc} (h : kF ad i j bA bB A s) (hS : va_S A s.heap H locs) (hB : ∀ q, B q → A q) : ∀ U : State, U.heap = H → s.WarmedH U.vm → kF ad i j bA bB B U := fun U hU hW => ⟨kLit_give h.1 U hU hW, kSt_giveB h.2.1 hS hB U hU hW, kSt_giveB h.2.2 hS hB U hU hW⟩
theorem kIn01 (p : Int32) : kIn p 0 1 = kSort p := by
  unfold kIn kSort
  by_cases h0 : p = 0
  · subst h0; decide
  · rw [if_neg h0]
    by_cases h1 : p = 1
    · subst h1; decide
    · rw [if_neg h1]
      have e0 : p.toInt ≠ 0 := fun e => h0 (Int32.toInt_inj.mp e)
      have e1 : p.toInt ≠ 1 := fun e => h1 (Int32.toInt_inj.mp e)
      by_cases h2 : p < 0
      · rw [if_pos h2]
      · rw [if_neg h2]
        have h3 : 1 < p := by
          rw [Int32.lt_iff_toInt_lt] at h2 ⊢
          have z0 : (0 : Int32).toInt = 0 := by decide
          have z1 : (1 : Int32).toInt = 1 := by decide
          omega
        rw [if_pos h3]
theorem kSort_or {p : Int32} (h : ¬ kSort p = 0) : p = 0 ∨ p = 1 := by
  unfold kSort at h
  by_cases h0 : p = 0
  · exact Or.inl h0
  · by_cases h1 : p = 1
    · exact Or.inr h1
    · rw [if_neg h0, if_neg h1] at h; exact absurd rfl h
def kFault (p : Int32) : Int32 := if kSort p = 0 then -2 else 0
