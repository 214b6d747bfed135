theorem kNeM {n : Nat} (h : n < 2 ^ 31) : ¬ nI n = -1 := fun z => by
  have h1 := nI_toInt h
  rw [z] at h1
  have h2 : ((-1 : Int32)).toInt = -1 := by decide
  rw [h2] at h1
  omega
theorem kLne {w : Int64} {x : Int32} (e : x = lg_cmp w 0) (c : ¬ x = 0) : ¬ w = 0 := fun z => c (by rw [e, z]; decide)
theorem kInN {p M : Int32} {n : Nat} (hM : M.toInt = n) (h1 : ¬ p < 0) (h2 : p ≤ M) : ∃ j : Nat, j < n + 1 ∧ p = nI j := by
  obtain ⟨j, hj, e⟩ := nI_of2 hM h1 h2
  exact ⟨j, by omega, e⟩
theorem kF255 : ∀ v : Fin 128, nI v.val &&& 255 = nI v.val := by decide +kernel
theorem kA255 {v : Nat} (h : v < 128) : nI v &&& 255 = nI v := kF255 ⟨v, h⟩
theorem kFi2c : ∀ v : Fin 128, (Int32.toUInt32 (nI v.val) % 65536).toInt32 = nI v.val := by decide +kernel
theorem kI2c {v : Nat} (h : v < 128) : (Int32.toUInt32 (nI v) % 65536).toInt32 = nI v := kFi2c ⟨v, h⟩
theorem kNarC {v : Nat} (h : v < 128) : narrow .char (.int (nI v)) = .int (nI v) := by
  show Value.int _ = Value.int _
  congr 1
  exact kI2c h
/-- the reference's object, where only what its parser has changes -/
def kMo (vs : Nat → Value) (f4 f5 f9 f10 f11 f12 f13 f14 f15 f16 f17 f18 : Value) : va_E := .inr (10, [vs 0, vs 1, vs 2, vs 3, f4, f5, vs 6, vs 7, vs 8, f9, f10, f11, f12, f13, f14, f15, f16, f17, f18, vs 19, vs 20, vs 21, vs 22, vs 23, vs 24, vs 25, vs 26, vs 27, vs 28, vs 29, vs 30, vs 31, vs 32, vs 33, vs 34, vs 35, vs 36, vs 37, vs 38, vs 39, vs 40, vs 41, vs 42, vs 43, vs 44, vs 45, vs 46, vs 47, vs 48, vs 49, vs 50, vs 51])
def kVl (l : List Value) : Nat → Value := fun i => l.getD i .null
