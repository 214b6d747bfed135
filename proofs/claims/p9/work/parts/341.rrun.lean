/-- the letters' signs -/
def kSg8 (k : Nat) : Nat := if k = 0 then 118 else if k = 1 then 112 else if k = 2 then 110 else if k = 3 then 109 else if k = 4 then 115 else if k = 5 then 117 else if k = 6 then 100 else 105
/-- the told rows of both sides -/
def kTd (ks kw : Nat) (g0 g1 g2 g3 g4 : Nat → Int32) (sv : Nat) (m19 m20 m21 m22 m24 m25 : Nat → Int32) : Prop := (∀ j : Nat, j < ks → m19 j = g0 j ∧ m20 j = g1 j ∧ m21 j = g2 j ∧ m22 j = g3 j ∧ (kIsB (nI sv) (nI j) = if m25 j = 0 then 0 else 1)) ∧ (∀ i : Nat, i < kw → m24 i = g4 i ∧ 0 ≤ (g4 i).toInt ∧ (g4 i).toInt ≤ 47) ∧ sv < 2 ^ ks
/-- what both sides were told, and that it is within bounds -/
def kT0 (ks kw : Nat) (g0 g1 g2 g3 g4 m19 m20 m21 m22 m24 : Nat → Int32) : Prop := (∀ j : Nat, j < ks → m19 j = g0 j ∧ m20 j = g1 j ∧ m21 j = g2 j ∧ m22 j = g3 j) ∧ (∀ i : Nat, i < kw → m24 i = g4 i ∧ 0 ≤ (g4 i).toInt ∧ (g4 i).toInt ≤ 47) ∧ (∀ j : Nat, ks ≤ j → g3 j = 0) ∧ kOk ks (kS0 g0 g1 g2 0)
theorem kTd_mk {ks kw sv : Nat} {g0 g1 g2 g3 g4 m19 m20 m21 m22 m24 m25 : Nat → Int32} (H : kT0 ks kw g0 g1 g2 g3 g4 m19 m20 m21 m22 m24) (hse : ∀ j : Nat, j < ks → (m25 j = 0 ↔ kIsB (nI sv) (nI j) = 0)) (hsb : sv < 2 ^ ks) : kTd ks kw g0 g1 g2 g3 g4 sv m19 m20 m21 m22 m24 m25 := by
  refine ⟨fun j hj => ?_, H.2.1, hsb⟩
  obtain ⟨h1, h2, h3, h4⟩ := H.1 j hj
  refine ⟨h1, h2, h3, h4, ?_⟩
  rcases kIsB_01 (nI sv) (nI j) with z | z
  · rw [z, if_pos ((hse j hj).mpr z)]
  · rw [z, if_neg (fun y => absurd ((hse j hj).mp y) (by rw [z]; decide))]
theorem kWordN_or (p : Int32) (k : Nat) : kWordN p k = k ∨ (kWordN p k = k + 1 ∧ ¬ kIn p 0 47 = 0) := by
  unfold kWordN
  by_cases h : kIn p 0 47 = 0
  · rw [if_pos h]; exact Or.inl rfl
  · rw [if_neg h]
    by_cases h2 : k < 4
    · rw [if_pos h2]; exact Or.inr ⟨rfl, h⟩
    · rw [if_neg h2]; exact Or.inl rfl
theorem kT0_wrd {p : Int32} {ks kw : Nat} {g0 g1 g2 g3 g4 m19 m20 m21 m22 m24 : Nat → Int32} (H : kT0 ks kw g0 g1 g2 g3 g4 m19 m20 m21 m22 m24) : kT0 ks (kWordN p kw) g0 g1 g2 g3 (kWdF p kw g4) m19 m20 m21 m22 (kWdF p kw m24) := by
  unfold kWdF
  rcases kWordN_or p kw with e | ⟨e, hi⟩
  · rw [if_pos e, if_pos e, e]; exact H
  · obtain ⟨a, ha, ea⟩ := kIn_ix (n := 47) (by decide) hi
    rw [if_neg (by omega), if_neg (by omega), e]
    refine ⟨H.1, fun i hj => ?_, H.2.2⟩
    by_cases z : i = kw
    · rw [z, pk_us, pk_us, ea, nI_toInt (by omega)]
      exact ⟨rfl, by omega, by omega⟩
    · rw [pk_un z, pk_un z]
      exact H.2.1 i (by omega)
