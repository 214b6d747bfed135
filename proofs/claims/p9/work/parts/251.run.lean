/-- a sum over those of whom c holds -/
def kSm (c : Nat → Bool) (f : Nat → Int32) : Nat → Int32
  | 0 => 0
  | n + 1 => if c n then kSm c f n + f n else kSm c f n
/-- all but one, and that one -/
def kBut (j : Nat) (c : Nat → Bool) : Nat → Bool := fun o => decide (¬ o = j) && c o
/-- a run: what each holds, what it has put in, where it is, since when it tells, what was drawn, the hour -/
abbrev kRst : Type := (Nat → Int32) × (Nat → Int32) × (Nat → Int32) × (Nat → Int32) × Int64 × Nat
/-- what a run goes by: how many persons, how many words, whom each knows, the words, who is sent, who is there, the law -/
abbrev kEn : Type := Nat × Nat × (Nat → Int32) × (Nat → Int32) × (Nat → Int32) × (Nat → Int32) × List kTr
/-- there, and in a house -/
def kIh (E : kEn) (S : kRst) (q : Int32) : Nat → Bool := fun o => decide (¬ E.2.2.2.2.2.1 o = 0) && decide (S.2.2.1 o = q)
def kNn (E : kEn) (S : kRst) (j : Nat) : Int32 := if S.2.2.1 j = -1 then 0 else kSm (kBut j (kIh E S (S.2.2.1 j))) (fun _ => 1) E.1
def kNh (E : kEn) (S : kRst) (j : Nat) : Int32 := if S.2.2.1 j = -1 then 0 else kSm (kBut j (kIh E S (S.2.2.1 j))) S.1 E.1
def kNse (E : kEn) (S : kRst) (j : Nat) : Int32 := if S.2.2.1 j = -1 then 0 else kSm (kBut j (kIh E S (S.2.2.1 j))) E.2.2.2.2.1 E.1
/-- the words that are past, and the latest of them -/
def kPa (f : Nat → Int32) (h : Int32) : Nat → Bool := fun i => decide (f i ≤ h)
def kLa (f : Nat → Int32) (h : Int32) : Nat → Int32
  | 0 => -1
  | n + 1 => if f n ≤ h then (if kLa f h n < f n then f n else kLa f h n) else kLa f h n
def kUu (E : kEn) (S : kRst) : Int32 := kSm (kPa E.2.2.2.1 (nI S.2.2.2.2.2)) (fun _ => 1) E.2.1
def kDd (E : kEn) (S : kRst) : Int32 := if kLa E.2.2.2.1 (nI S.2.2.2.2.2) E.2.1 = -1 then 0 else nI S.2.2.2.2.2 - kLa E.2.2.2.1 (nI S.2.2.2.2.2) E.2.1
/-- the letters of one -/
def kLe (E : kEn) (S : kRst) (j : Nat) : Nat → Int32 := fun k => if k = 0 then S.1 j else if k = 1 then S.2.1 j else if k = 2 then kNn E S j else if k = 3 then (if kNn E S j = 0 then 0 else kNh E S j / kNn E S j) else if k = 4 then kNse E S j else if k = 5 then kUu E S else if k = 6 then kDd E S else nI S.2.2.2.2.2
/-- what a label is worth to one -/
def kYy (E : kEn) (S : kRst) (lab j : Nat) : Int32 := kWoT (kLe E S j) lab E.2.2.2.2.2.2
def kFr (E : kEn) (j : Nat) : Bool := decide (¬ E.2.2.2.2.2.1 j = 0) && decide (E.2.2.2.2.1 j = 0)
def kWi (x : Int32) : Int32 := if x < 0 then 0 else if 100 < x then 100 else x
/-- behind the law's more or less -/
def kH1 (E : kEn) (S : kRst) (j : Nat) : Int32 := if kFr E j then kWi (S.1 j + kYy E S 0 j) else S.1 j
def kTe (E : kEn) (S : kRst) (j : Nat) : Bool := kFr E j && decide (50 ≤ kH1 E S j)
def kT1 (E : kEn) (S : kRst) (j : Nat) : Int32 := if kTe E S j then (if S.2.2.2.1 j = -1 then nI S.2.2.2.2.2 else S.2.2.2.1 j) else S.2.2.2.1 j
def kNr (S : kRst) (j k : Nat) : Bool := decide (¬ S.2.2.1 j = -1) && decide (S.2.2.1 j = S.2.2.1 k)
/-- whether one tells another -/
def kTn (E : kEn) (S : kRst) (k : Nat) : Nat → Bool := fun j => kTe E S j && (decide (¬ kIsB (E.2.2.1 j) (nI k) = 0) && !kNr S j k)
def kHe (E : kEn) (S : kRst) (k n : Nat) : Int32 := kSm (kTn E S k) (fun j => kYy E S 2 j) n
def kH2 (E : kEn) (S : kRst) (j : Nat) : Int32 := if kFr E j then kWi (kH1 E S j + kHe E S j E.1) else kH1 E S j
def kDr (x : Int64) : Int64 := x * 6364136223846793005 + 1442695040888963407
def kRv (x : Int64) : Int64 := (x.toUInt64 >>> ((33 : Int32).toInt64.toUInt64 &&& Int64.toUInt64 63)).toInt64
def kRm (x : Int64) : Int64 := kRv x - kRv x / 100 * 100
def kGo (x : Int64) (g : Int32) : Bool := decide (lg_cmp (kRm x) (Int32.toInt64 g) < 0)
def kMay (E : kEn) (S : kRst) (j : Nat) : Bool := kFr E j && decide (¬ S.2.2.1 j = -1)
def kGh (E : kEn) (S : kRst) : Nat → Int64 × (Nat → Int32)
  | 0 => (S.2.2.2.2.1, S.2.2.1)
  | n + 1 => if kMay E S n then (kDr (kGh E S n).1, if kGo (kDr (kGh E S n).1) (kYy E S 1 n) then upd (kGh E S n).2 n (-1) else (kGh E S n).2) else kGh E S n
/-- one hour -/
def kStp (E : kEn) (S : kRst) : kRst := (kH2 E S, S.2.1, (kGh E S E.1).2, kT1 E S, (kGh E S E.1).1, S.2.2.2.2.2 + 1)
def kIt (E : kEn) : Nat → kRst → kRst
  | 0, S => S
  | n + 1, S => kStp E (kIt E n S)
/-- within bounds -/
def kOk (ks : Nat) (S : kRst) : Prop := ∀ j : Nat, j < ks → (0 ≤ (S.1 j).toInt ∧ (S.1 j).toInt ≤ 100) ∧ (0 ≤ (S.2.1 j).toInt ∧ (S.2.1 j).toInt ≤ 99) ∧ (S.2.2.1 j = -1 ∨ ∃ v : Nat, v < 4 ∧ S.2.2.1 j = nI v)
theorem kIsB_01 (a b : Int32) : kIsB a b = 0 ∨ kIsB a b = 1 := by unfold kIsB; split; exact Or.inl rfl; exact Or.inr rfl
/-- everybody, and those who are there -/
def kEvb (ks : Nat) : Int32 := ((1 : Int32) <<< (nI ks &&& 31)) - 1
def kPrs (ks : Nat) (ab : Int32) : Int32 := kEvb ks &&& (ab ^^^ (-1))
abbrev kE0 (ks kw : Nat) (g3 g4 : Nat → Int32) (sv : Nat) (pr : Int32) (t : List kTr) : kEn := (ks, kw, g3, g4, (fun j => kIsB (nI sv) (nI j)), (fun j => kIsB pr (nI j)), t)
abbrev kS0 (g0 g1 g2 : Nat → Int32) (x : Int64) : kRst := (g0, g1, g2, (fun _ => -1), x, 0)
/-- what a run answers -/
def kRunV (w : Int32) (F : kRst) (j : Nat) : Int32 := if w = 0 then F.1 j else if w = 1 then F.2.2.1 j else F.2.2.2.1 j
def kRunA (kl ks kw : Nat) (g0 g1 g2 g3 g4 : Nat → Int32) (sv : Nat) (yL : Nat → List kTr) (p0 : Int32) (p1 : Int64) (p2 p3 p4 : Int32) : Int32 := if kPn p0 kl = 0 then -1000 else if kIn p2 0 48 = 0 then -1000 else if kPn p3 ks = 0 then -1000 else if kIn p4 0 2 = 0 then -1000 else kRunV p4 (kIt (kE0 ks kw g3 g4 sv (kPrs ks 0) (yL (Int32.toNatClampNeg p0))) (Int32.toNatClampNeg p2) (kS0 g0 g1 g2 p1)) (Int32.toNatClampNeg p3)
theorem kLcS (a : Int64) : lg_cmp a a = 0 := by
  unfold lg_cmp
  rw [if_neg (fun h : a > a => by have h2 := Int64.lt_iff_toInt_lt.mp h; omega), if_pos rfl]
/-- whether there is a worth to tell; which -/
def kWoE (kl ks : Nat) (p0 p1 p2 : Int32) : Int32 := if kPn p0 kl = 0 then 1 else if kIn p1 0 2 = 0 then 1 else if kPn p2 ks = 0 then 1 else 0
def kWoV (kl ks kw : Nat) (g0 g1 g2 g3 g4 : Nat → Int32) (sv : Nat) (yL : Nat → List kTr) (p0 p1 p2 : Int32) : Int32 := kYy (kE0 ks kw g3 g4 sv (kPrs ks 0) (yL (Int32.toNatClampNeg p0))) (kS0 g0 g1 g2 0) (Int32.toNatClampNeg p1) (Int32.toNatClampNeg p2)
def kWdF (p : Int32) (k : Nat) (f : Nat → Int32) : Nat → Int32 := if kWordN p k = k then f else upd f k p

