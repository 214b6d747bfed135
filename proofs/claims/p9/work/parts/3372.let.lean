theorem kUn_gd {mf2 mf3 : Nat → Int32} {off k : Nat} {g6 : Nat → Int32} {n6 : Nat} {g7 : Nat → Int32} {n7 : Nat} {y : Nat → List kTr} (hm : n7 ≤ 8) (h : kUn mf2 mf3 off k g6 n6 g7 n7 y) {j : Nat} (hj : j < k) : ∀ z ∈ y j, kGdC n6 n7 z := by
  obtain ⟨sb, sn, _, _, _, _, _, h6, h7⟩ := h j hj
  obtain ⟨o, q, x, c, e⟩ : ∃ (o : Bool) (q : Nat) (x c : List Int32), kRead sb sn g6 n6 g7 n7 = (o, q, x, c) := ⟨_, _, _, _, rfl⟩
  have ho : o = true := by rw [e] at h6; exact h6
  rw [ho] at e
  rw [h7]
  exact (kRead_T hm e).2.2
