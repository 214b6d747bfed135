/-- where the text constants lie -/
def kLit (ad : Nat → Nat) (U : State) : Prop := vk_R RX4 28 "" (ad 0) U ∧ vk_R RX4 41 "ygx" (ad 1) U ∧ vk_R RX4 43 "w" (ad 2) U ∧ vk_R RX4 45 "vpnmsudi" (ad 3) U ∧ vk_R RX4 47 "abcde" (ad 4) U ∧ vk_R RX10 26 "ygx" (ad 5) U ∧ vk_R RX10 229 "w" (ad 6) U ∧ vk_R RX10 32 "vpnmsudi" (ad 7) U ∧ vk_R RX10 231 "abcde" (ad 8) U
theorem kLit_same {ad : Nat → Nat} {u U : State} (hv : U.vm = u.vm) (h : kLit ad u) : kLit ad U := by
  obtain ⟨h0, h1, h2, h3, h4, h5, h6, h7, h8⟩ := h
  exact ⟨h0.same hv, h1.same hv, h2.same hv, h3.same hv, h4.same hv, h5.same hv, h6.same hv, h7.same hv, h8.same hv⟩
theorem kLit_warm {ad : Nat → Nat} {s U : State} (hW : s.WarmedH U.vm) (h : kLit ad s) : kLit ad U := by
  obtain ⟨h0, h1, h2, h3, h4, h5, h6, h7, h8⟩ := h
  exact ⟨h0.warm hW, h1.warm hW, h2.warm hW, h3.warm hW, h4.warm hW, h5.warm hW, h6.warm hW, h7.warm hW, h8.warm hW⟩
theorem kLit_blind {ad : Nat → Nat} : ∀ (U : State) (g : JFrame) (mk : MethodId) (a : Array Value), kLit ad U → kLit ad (U.calling g mk a) := fun _ _ _ _ h => kLit_same rfl h
theorem kLit_give {ad : Nat → Nat} {s : State} {H : Heap} (h : kLit ad s) : ∀ U : State, U.heap = H → s.WarmedH U.vm → kLit ad U := fun _ _ hW => kLit_warm hW h
def kAO (U : State) : Prop := va_AO RX6 U
/-- where the texts lie, and two of them -/
def kRd (ad : Nat → Nat) (i j b6 n6 : Nat) (g6 : Nat → Int32) (b7 n7 : Nat) (g7 : Nat → Int32) (A : Nat → Prop) (U : State) : Prop := kLit ad U ∧ kS2 (ad i) b6 n6 g6 (ad j) b7 n7 g7 A U
theorem kRd_blind {ad : Nat → Nat} {i j b6 n6 : Nat} {g6 : Nat → Int32} {b7 n7 : Nat} {g7 : Nat → Int32} {A : Nat → Prop} : ∀ (U : State) (k : JFrame) (mk : MethodId) (a : Array Value), kRd ad i j b6 n6 g6 b7 n7 g7 A U → kRd ad i j b6 n6 g6 b7 n7 g7 A (U.calling k mk a) := fun U k mk a h => ⟨kLit_blind U k mk a h.1, kS2_blind U k mk a h.2⟩
theorem kRd_give {ad : Nat → Nat} {i j b6 n6 : Nat} {g6 : Nat → Int32} {b7 n7 : Nat} {g7 : Nat → Int32} {A B : Nat → Prop} {s : State} {H : Heap} {locs : List Loc} (h : kRd ad i j b6 n6 g6 b7 n7 g7 A s) (hS : va_S A s.heap H locs) (hB : ∀ q, B q → A q) : ∀ U : State, U.heap = H → s.WarmedH U.vm → kRd ad i j b6 n6 g6 b7 n7 g7 B U := fun U hU hW => ⟨kLit_give h.1 U hU hW, kS2_give h.2 hS hB U hU hW⟩

