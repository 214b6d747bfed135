theorem kTk_at {b : Nat → Nat} {n c p q P : Nat} {o : Bool} (hn : n ≤ 120) (hp : p = kSp b n q) (h : kTk b n c p [] = (o, P, [])) : (o = true → kLk b n q = c ∧ P = p + 1) ∧ (o = false → ¬ kLk b n q = c ∧ P = p) := by
  subst hp
  unfold kTk at h
  rw [kLk_sp hn, kSp_sp hn] at h
  by_cases z : kLk b n q = c
  · rw [if_pos z] at h
    have h1 := (Prod.mk.inj h).1
    have h2 := (Prod.mk.inj (Prod.mk.inj h).2).1
    exact ⟨fun _ => ⟨z, h2.symm⟩, fun e => (Bool.false_ne_true (e.symm.trans h1.symm)).elim⟩
  · rw [if_neg z] at h
    have h1 := (Prod.mk.inj h).1
    have h2 := (Prod.mk.inj (Prod.mk.inj h).2).1
    exact ⟨fun e => (Bool.false_ne_true (h1.trans e)).elim, fun _ => ⟨z, h2.symm⟩⟩
