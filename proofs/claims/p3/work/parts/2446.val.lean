/-- a clause: its label's number, its condition, its sum -/
abbrev kTr : Type := Nat × List Int32 × List Int32
def kFl : List kTr → List Int32
  | [] => []
  | (_, c, m) :: r => c ++ m ++ kFl r
def kRw : Nat → List kTr → List Int32
  | _, [] => []
  | o, (j, c, m) :: r => [nI j, nI o, nI (o + c.length), nI (o + (c ++ m).length)] ++ kRw (o + (c ++ m).length) r
/-- what a text is worth under a label -/
def kWoT (lt : Nat → Int32) (lab : Nat) : List kTr → Int32
  | [] => 0
  | (j, c, m) :: r => if j = lab ∧ (c = [] ∨ ¬ kVal lt c = 0) then kVal lt m else kWoT lt lab r
/-- a clause that can be reckoned -/
def kGdC (N M : Nat) (z : kTr) : Prop := z.1 < N ∧ (z.2.1 = [] ∨ kHb M 18 z.2.1) ∧ kHn M 15 z.2.2
/-- the clauses of a text, as they are read -/
def kTrA (t : List kTr) (x : List Int32) (j k : Nat) : List kTr := t ++ [(j, x.take k, x.drop k)]
def kRdT (b : Nat → Nat) (n : Nat) (g6 : Nat → Int32) (n6 : Nat) (g : Nat → Int32) (m : Nat) : Nat → Nat → List kTr → List kTr
  | 0, _, _ => []
  | f + 1, p, t =>
    if (kCla b n g6 n6 g m p).1 then
      (if kLk b n (kCla b n g6 n6 g m p).2.1 = 0 then kTrA t (kCla b n g6 n6 g m p).2.2.1 (kCla b n g6 n6 g m p).2.2.2.1 (kCla b n g6 n6 g m p).2.2.2.2
       else if kLk b n (kCla b n g6 n6 g m p).2.1 = 59 then kRdT b n g6 n6 g m f (kSp b n (kCla b n g6 n6 g m p).2.1 + 1) (kTrA t (kCla b n g6 n6 g m p).2.2.1 (kCla b n g6 n6 g m p).2.2.2.1 (kCla b n g6 n6 g m p).2.2.2.2)
       else [])
    else []
def kReadT (b : Nat → Nat) (n : Nat) (g6 : Nat → Int32) (n6 : Nat) (g : Nat → Int32) (m : Nat) : List kTr := kRdT b n g6 n6 g m 31 0 []
/-- a rule's two rows are a list of clauses -/
def kRu (t : List kTr) (M nS nC : Nat) (gS gC : Nat → Int32) : Prop := nS = (kFl t).length ∧ nC = (kRw 0 t).length ∧ (∀ j : Nat, j < nS → gS j = (kFl t).getD j 0) ∧ (∀ j : Nat, j < nC → gC j = (kRw 0 t).getD j 0) ∧ M ≤ 8 ∧ ∀ z ∈ t, kGdC 8 M z
