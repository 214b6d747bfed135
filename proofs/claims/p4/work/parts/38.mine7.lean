/-- what the class's maker needs: text constants, the array class of rules, the links to its nest mates -/
def kNew (ad : Nat → Nat) (U : State) : Prop := kLit ad U ∧ kAO U ∧ va_Nw (.methodLinkNest RX9 11 yX8_init RX9) U ∧ va_Nw (.methodLinkNest RX9 27 yX5_init RX9) U ∧ va_Nw (.methodLinkNest RX9 46 yX2_init RX9) U ∧ va_Nw (.methodLinkNest RX9 62 yX3_init RX9) U ∧ va_Nw (.methodLinkNest RX9 69 yX0_init RX9) U
theorem kNew_blind {ad : Nat → Nat} : ∀ (U : State) (g : JFrame) (mk : MethodId) (a : Array Value), kNew ad U → kNew ad (U.calling g mk a) := fun U g mk a h => by
  obtain ⟨h0, h1, h2, h3, h4, h5, h6⟩ := h
  exact ⟨kLit_blind _ _ _ _ h0, kAO_blind _ _ _ _ h1, va_Nw.same (u := U) rfl rfl h2, va_Nw.same (u := U) rfl rfl h3, va_Nw.same (u := U) rfl rfl h4, va_Nw.same (u := U) rfl rfl h5, va_Nw.same (u := U) rfl rfl h6⟩
theorem kNew_give {ad : Nat → Nat} {s : State} {H : Heap} (h : kNew ad s) : ∀ U : State, U.heap = H → s.WarmedH U.vm → kNew ad U := fun U hU hW => by
  obtain ⟨h0, h1, h2, h3, h4, h5, h6⟩ := h
  exact ⟨kLit_give h0 U hU hW, kAO_give h1 U hU hW, va_Nw.warmM hW h2, va_Nw.warmM hW h3, va_Nw.warmM hW h4, va_Nw.warmM hW h5, va_Nw.warmM hW h6⟩
