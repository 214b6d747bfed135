theorem kNeM {n : Nat} (h : n < 2 ^ 31) : ¬ nI n = -1 := fun z => by
  have h1 := nI_toInt h
  rw [z] at h1
  have h2 : ((-1 : Int32)).toInt = -1 := by decide
  rw [h2] at h1
  omega
theorem kLne {w : Int64} {x : Int32} (e : x = lg_cmp w 0) (c : ¬ x = 0) : ¬ w = 0 := fun z => c (by rw [e, z]; decide)
theorem kInN {p M : Int32} {n : Nat} (hM : M.toInt = n) (h1 : ¬ p < 0) (h2 : p ≤ M) : ∃ j : Nat, j < n + 1 ∧ p = nI j := by
  obtain ⟨j, hj, e⟩ := nI_of2 hM h1 h2
  exact ⟨j, by omega, e⟩
theorem kF255 : ∀ v : Fin 128, nI v.val &&& 255 = nI v.val := by decide +kernel
theorem kA255 {v : Nat} (h : v < 128) : nI v &&& 255 = nI v := kF255 ⟨v, h⟩
theorem kFi2c : ∀ v : Fin 128, (Int32.toUInt32 (nI v.val) % 65536).toInt32 = nI v.val := by decide +kernel
theorem kI2c {v : Nat} (h : v < 128) : (Int32.toUInt32 (nI v) % 65536).toInt32 = nI v := kFi2c ⟨v, h⟩
theorem kNarC {v : Nat} (h : v < 128) : narrow .char (.int (nI v)) = .int (nI v) := by
  show Value.int _ = Value.int _
  congr 1
  exact kI2c h
