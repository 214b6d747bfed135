/-- a number within a million -/
def kClm (x : Int) : Int32 := Int32.ofInt (max (-1000000) (min 1000000 x))
/-- two numbers joined by a sign -/
def kJi (s l r : Int32) : Int :=
  if s = 43 then l.toInt + r.toInt else if s = 45 then l.toInt - r.toInt else if s = 42 then l.toInt * r.toInt
  else if s = 47 then (if r = 0 then 0 else (l / r).toInt) else if s = 61 then (if l = r then 1 else 0) else if s = 60 then (if l < r then 1 else 0)
  else if s = 62 then (if r < l then 1 else 0) else if s = 38 then (l &&& r).toInt else (l ||| r).toInt
def kJn (s l r : Int32) : Int32 := kClm (kJi s l r)
/-- what a step lays on the stack -/
def kStv (lt : Nat → Int32) (x : Int32) : Int32 := if x - 10000 < 0 then x else if x - 10000 < 8 then lt (Int32.toNatClampNeg (x - 10000)) else x
def kEv1 (lt : Nat → Int32) (x : Int32) (st : List Int32) : List Int32 :=
  if x < 20000 then kStv lt x :: st
  else if x = 20033 then (match st with
    | a :: r => (if a = 0 then 1 else 0) :: r
    | [] => [])
  else (match st with
    | b :: a :: r => kJn (x - 20000) a b :: r
    | r => r)
def kEv (lt : Nat → Int32) : List Int32 → List Int32 → List Int32
  | [], st => st
  | x :: l, st => kEv lt l (kEv1 lt x st)
/-- a sum, as steps: how high it lays the stack -/
def kWn (M h : Nat) (l : List Int32) : Prop := ∀ P : Nat → List Int32 → Prop, (∀ v : Nat, v < 10000 → P 1 [nI v]) → (∀ k : Nat, k < M → k < 8 → P 1 [nI (10000 + k)]) → (∀ (a b s : Nat) (l m : List Int32), P a l → P b m → (s = 43 ∨ s = 45 ∨ s = 42 ∨ s = 47) → P (max a (b + 1)) (l ++ m ++ [nI (20000 + s)])) → P h l
/-- a condition, as steps -/
def kWb (M h : Nat) (l : List Int32) : Prop := ∀ P : Nat → List Int32 → Prop, (∀ (a b s : Nat) (l m : List Int32), kWn M a l → kWn M b m → (s = 61 ∨ s = 60 ∨ s = 62) → P (max a (b + 1)) (l ++ m ++ [nI (20000 + s)])) → (∀ (a : Nat) (l : List Int32), P a l → P a (l ++ [20033])) → (∀ (a b s : Nat) (l m : List Int32), P a l → P b m → (s = 38 ∨ s = 124) → P (max a (b + 1)) (l ++ m ++ [nI (20000 + s)])) → P h l
def kVal (lt : Nat → Int32) (l : List Int32) : Int32 := (kEv lt l []).headD 0
/-- sums no higher than so much -/
def kHn (M H : Nat) (l : List Int32) : Prop := ∃ h : Nat, h ≤ H ∧ kWn M h l
def kHb (M H : Nat) (l : List Int32) : Prop := ∃ h : Nat, h ≤ H ∧ kWb M h l
