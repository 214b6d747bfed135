/-- a byte as the reference keeps it -/
def kSg (v : Nat) : Int32 := if v < 128 then nI v else nI v - 256
/-- the texts that the reference keeps: their bytes are those of a text without a fault, whose clauses are y -/
def kUn (mf2 mf3 : Nat → Int32) (off k : Nat) (g6 : Nat → Int32) (n6 : Nat) (g7 : Nat → Int32) (n7 : Nat) (y : Nat → List kTr) : Prop := ∀ j : Nat, j < k → ∃ (sb : Nat → Nat) (sn : Nat), mf3 (off + j) = nI sn ∧ sn ≤ 120 ∧ (∀ q : Nat, q < sn → mf2 (120 * (off + j) + q) = kSg (sb q)) ∧ (∀ q : Nat, sb q < 256) ∧ (∀ q : Nat, q < sn → 1 ≤ sb q) ∧ (kRead sb sn g6 n6 g7 n7).1 = true ∧ y j = kReadT sb sn g6 n6 g7 n7
