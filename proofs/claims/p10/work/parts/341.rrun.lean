/-- the letters' signs -/
def kSg8 (k : Nat) : Nat := if k = 0 then 118 else if k = 1 then 112 else if k = 2 then 110 else if k = 3 then 109 else if k = 4 then 115 else if k = 5 then 117 else if k = 6 then 100 else 105
/-- the told rows of both sides -/
def kTd (ks kw : Nat) (g0 g1 g2 g3 g4 : Nat → Int32) (sv : Nat) (m19 m20 m21 m22 m24 m25 : Nat → Int32) : Prop := (∀ j : Nat, j < ks → m19 j = g0 j ∧ m20 j = g1 j ∧ m21 j = g2 j ∧ m22 j = g3 j ∧ (kIsB (nI sv) (nI j) = if m25 j = 0 then 0 else 1)) ∧ (∀ i : Nat, i < kw → m24 i = g4 i ∧ 0 ≤ (g4 i).toInt ∧ (g4 i).toInt ≤ 47) ∧ sv < 2 ^ ks
/-- what both sides were told, and that it is within bounds -/
def kT0 (ks kw : Nat) (g0 g1 g2 g3 g4 m19 m20 m21 m22 m24 : Nat → Int32) : Prop := (∀ j : Nat, j < ks → m19 j = g0 j ∧ m20 j = g1 j ∧ m21 j = g2 j ∧ m22 j = g3 j) ∧ (∀ i : Nat, i < kw → m24 i = g4 i ∧ 0 ≤ (g4 i).toInt ∧ (g4 i).toInt ≤ 47) ∧ (∀ j : Nat, ks ≤ j → g3 j = 0) ∧ kOk ks (kS0 g0 g1 g2 0)
theorem kTd_mk {ks kw sv : Nat} {g0 g1 g2 g3 g4 m19 m20 m21 m22 m24 m25 : Nat → Int32} (H : kT0 ks kw g0 g1 g2 g3 g4 m19 m20 m21 m22 m24) (hse : ∀ j : Nat, j < ks → (m25 j = 0 ↔ kIsB (nI sv) (nI j) = 0)) (hsb : sv < 2 ^ ks) : kTd ks kw g0 g1 g2 g3 g4 sv m19 m20 m21 m22 m24 m25 := by
  refine ⟨fun j hj => ?_, H.2.1, hsb⟩
  obtain ⟨h1, h2, h3, h4⟩ := H.1 j hj
  refine ⟨h1, h2, h3, h4, ?_⟩
  rcases kIsB_01 (nI sv) (nI j) with z | z
  · rw [z, if_pos ((hse j hj).mpr z)]
  · rw [z, if_neg (fun y => absurd ((hse j hj).mp y) (by rw [z]; decide))]
theorem kPerN_in {p q u : Int32} {k : Nat} (h : kPerN p q u k = k + 1) : ¬ kIn p 0 100 = 0 ∧ ¬ kIn q 0 99 = 0 ∧ ¬ kIn u 0 3 = 0 := by
  unfold kPerN at h
  by_cases h1 : kIn p 0 100 = 0
  · rw [if_pos h1] at h; omega
  · rw [if_neg h1] at h
    by_cases h2 : kIn q 0 99 = 0
    · rw [if_pos h2] at h; omega
    · rw [if_neg h2] at h
      by_cases h3 : kIn u 0 3 = 0
      · rw [if_pos h3] at h; omega
      · exact ⟨h1, h2, h3⟩
theorem kPeF_n {p q u v : Int32} {k : Nat} {f : Nat → Int32} (h : kPerN p q u k = k) : kPeF p q u k v f = f := if_pos h
theorem kPeF_s {p q u v : Int32} {k : Nat} {f : Nat → Int32} (h : kPerN p q u k = k + 1) : kPeF p q u k v f = upd f k v := if_neg (by omega)
theorem kT0_per {p q u : Int32} {ks kw : Nat} {g0 g1 g2 g3 g4 m19 m20 m21 m22 m24 : Nat → Int32} (H : kT0 ks kw g0 g1 g2 g3 g4 m19 m20 m21 m22 m24) : kT0 (kPerN p q u ks) kw (kPeF p q u ks p g0) (kPeF p q u ks q g1) (kPeF p q u ks u g2) g3 g4 (kPeF p q u ks p m19) (kPeF p q u ks q m20) (kPeF p q u ks u m21) (kPeF p q u ks 0 m22) m24 := by
  rcases kPerN_or p q u ks with e | ⟨e, _⟩
  · rw [kPeF_n e, kPeF_n e, kPeF_n e, kPeF_n e, kPeF_n e, kPeF_n e, kPeF_n e, e]; exact H
  · obtain ⟨i1, i2, i3⟩ := kPerN_in e
    obtain ⟨a, ha, ea⟩ := kIn_ix (n := 100) (by decide) i1
    obtain ⟨b, hb, eb⟩ := kIn_ix (n := 99) (by decide) i2
    obtain ⟨c, hc, ec⟩ := kIn_ix (n := 3) (by decide) i3
    rw [kPeF_s e, kPeF_s e, kPeF_s e, kPeF_s e, kPeF_s e, kPeF_s e, kPeF_s e, e]
    refine ⟨fun j hj => ?_, H.2.1, fun j hj => H.2.2.1 j (by omega), fun j hj => ?_⟩
    · by_cases z : j = ks
      · rw [z, pk_us, pk_us, pk_us, pk_us, pk_us, pk_us, pk_us]
        exact ⟨rfl, rfl, rfl, (H.2.2.1 ks (Nat.le_refl ks)).symm⟩
      · rw [pk_un z, pk_un z, pk_un z, pk_un z, pk_un z, pk_un z, pk_un z]
        exact H.1 j (by omega)
    · show (0 ≤ (upd g0 ks p j).toInt ∧ (upd g0 ks p j).toInt ≤ 100) ∧ (0 ≤ (upd g1 ks q j).toInt ∧ (upd g1 ks q j).toInt ≤ 99) ∧ (upd g2 ks u j = -1 ∨ ∃ v : Nat, v < 4 ∧ upd g2 ks u j = nI v)
      by_cases z : j = ks
      · rw [z, pk_us, pk_us, pk_us, ea, eb, ec, nI_toInt (by omega), nI_toInt (by omega)]
        exact ⟨by omega, by omega, Or.inr ⟨c, by omega, rfl⟩⟩
      · rw [pk_un z, pk_un z, pk_un z]
        exact H.2.2.2 j (by omega)
theorem kKn_in {p q : Int32} {k : Nat} (h : ¬ kKnow p q k = 0) : ∃ a b : Nat, a < k ∧ b < k ∧ p = nI a ∧ q = nI b := by
  unfold kKnow at h
  by_cases h1 : kPn p k = 0
  · rw [if_pos h1] at h; exact absurd rfl h
  · rw [if_neg h1] at h
    by_cases h2 : kPn q k = 0
    · rw [if_pos h2] at h; exact absurd rfl h
    · have hx : ∀ x : Int32, ¬ kPn x k = 0 → ∃ a : Nat, a < k ∧ x = nI a := fun x hx => by
        unfold kPn at hx
        by_cases y1 : x < 0
        · rw [if_pos y1] at hx; exact absurd rfl hx
        · rw [if_neg y1] at hx
          by_cases y2 : x < nI k
          · obtain ⟨a, ha, ea⟩ := nI_of y1
            refine ⟨a, ?_, ea⟩
            rw [ea] at y2
            by_cases y3 : k < 2 ^ 31
            · exact klt ha y3 y2
            · omega
          · rw [if_neg y2] at hx; exact absurd rfl hx
      obtain ⟨a, ha, ea⟩ := hx p h1
      obtain ⟨b, hb, eb⟩ := hx q h2
      exact ⟨a, b, ha, hb, ea, eb⟩
theorem kT0_kno {p q : Int32} {ks kw : Nat} {g0 g1 g2 g3 g4 m19 m20 m21 m22 m24 : Nat → Int32} (hk : ks ≤ 10) (H : kT0 ks kw g0 g1 g2 g3 g4 m19 m20 m21 m22 m24) : kT0 ks kw g0 g1 g2 (kKnF p q ks g3) g4 m19 m20 m21 (kKnF p q ks m22) m24 := by
  unfold kKnF
  by_cases h : kKnow p q ks = 0
  · rw [if_pos h, if_pos h]; exact H
  · obtain ⟨a, b, ha, hb, ea, eb⟩ := kKn_in h
    rw [if_neg h, if_neg h, ea, eb, nI_clamp (by omega), nI_clamp (by omega)]
    refine ⟨fun j hj => ?_, H.2.1, fun j hj => ?_, H.2.2.2⟩
    · obtain ⟨h1, h2, h3, h4⟩ := H.1 j hj
      refine ⟨h1, h2, h3, ?_⟩
      have e1 : ∀ x : Nat, x < ks → upd m22 a (m22 a ||| ((1 : Int32) <<< (nI b &&& 31))) x = upd g3 a (g3 a ||| ((1 : Int32) <<< (nI b &&& 31))) x := fun x hx => by
        by_cases z : x = a
        · rw [z, pk_us, pk_us, (H.1 a ha).2.2.2]
        · rw [pk_un z, pk_un z]; exact (H.1 x hx).2.2.2
      unfold kKn2
      by_cases z : j = b
      · rw [z, pk_us, pk_us, e1 b hb]
      · rw [pk_un z, pk_un z]; exact e1 j hj
    · unfold kKn2
      rw [pk_un (by omega), pk_un (by omega)]
      exact H.2.2.1 j hj
theorem kWordN_or (p : Int32) (k : Nat) : kWordN p k = k ∨ (kWordN p k = k + 1 ∧ ¬ kIn p 0 47 = 0) := by
  unfold kWordN
  by_cases h : kIn p 0 47 = 0
  · rw [if_pos h]; exact Or.inl rfl
  · rw [if_neg h]
    by_cases h2 : k < 4
    · rw [if_pos h2]; exact Or.inr ⟨rfl, h⟩
    · rw [if_neg h2]; exact Or.inl rfl
theorem kT0_wrd {p : Int32} {ks kw : Nat} {g0 g1 g2 g3 g4 m19 m20 m21 m22 m24 : Nat → Int32} (H : kT0 ks kw g0 g1 g2 g3 g4 m19 m20 m21 m22 m24) : kT0 ks (kWordN p kw) g0 g1 g2 g3 (kWdF p kw g4) m19 m20 m21 m22 (kWdF p kw m24) := by
  unfold kWdF
  rcases kWordN_or p kw with e | ⟨e, hi⟩
  · rw [if_pos e, if_pos e, e]; exact H
  · obtain ⟨a, ha, ea⟩ := kIn_ix (n := 47) (by decide) hi
    rw [if_neg (by omega), if_neg (by omega), e]
    refine ⟨H.1, fun i hj => ?_, H.2.2⟩
    by_cases z : i = kw
    · rw [z, pk_us, pk_us, ea, nI_toInt (by omega)]
      exact ⟨rfl, by omega, by omega⟩
    · rw [pk_un z, pk_un z]
      exact H.2.1 i (by omega)
theorem kT0_0 (g0 g1 g2 g4 m19 m20 m21 m22 m24 : Nat → Int32) : kT0 0 0 g0 g1 g2 (fun _ => 0) g4 m19 m20 m21 m22 m24 := ⟨fun j hj => absurd hj (Nat.not_lt_zero j), fun j hj => absurd hj (Nat.not_lt_zero j), fun _ _ => rfl, fun j hj => absurd hj (Nat.not_lt_zero j)⟩
