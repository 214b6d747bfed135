/-- a byte of a word, as the reference shifts it -/
def kS (x k : Int32) : Int32 := (x >>> (k &&& 31)) &&& 255
def kC1 (x k : Int32) : Nat := if kS x k = 0 then 0 else 1
/-- how many bytes of a word are not 0 -/
def kCnt (x : Int32) : Nat := kC1 x 24 + kC1 x 16 + kC1 x 8 + kC1 x 0
/-- a byte of a word, as a natural -/
def kSn (x k : Int32) : Nat := (x >>> (k &&& 31)).toBitVec.toNat % 256
theorem kS_n (x k : Int32) : kS x k = nI (kSn x k) := pk_and _ 8 (by decide)
theorem kSn_1 {x k : Int32} (h : ¬ kS x k = 0) : 1 ≤ kSn x k := Nat.pos_of_ne_zero (fun z => h (by rw [kS_n, z]; rfl))
def kUpN (t : Nat → Nat) (k v : Nat) : Nat → Nat := fun j => if j = k then v else t j
def kP1 (x k : Int32) (s : (Nat → Nat) × Nat) : (Nat → Nat) × Nat := if kS x k = 0 then s else (kUpN s.1 s.2 (kSn x k), s.2 + 1)
def kPut (x : Int32) (s : (Nat → Nat) × Nat) : (Nat → Nat) × Nat := kP1 x 0 (kP1 x 8 (kP1 x 16 (kP1 x 24 s)))
def kFed (a b c d e : Int32) (t : Nat → Nat) (k : Nat) : (Nat → Nat) × Nat := if 120 < k + (kCnt a + kCnt b + kCnt c + kCnt d + kCnt e) then (t, k) else kPut e (kPut d (kPut c (kPut b (kPut a (t, k)))))
def kFeA (a b c d e : Int32) (k k1 : Nat) : Int32 := if 120 < k + (kCnt a + kCnt b + kCnt c + kCnt d + kCnt e) then -1 else nI k1
/-- bytes stand where the tape is -/
def kNz (s : (Nat → Nat) × Nat) : Prop := ∀ j : Nat, j < s.2 → 1 ≤ s.1 j
theorem kP1_nz {x k : Int32} {s : (Nat → Nat) × Nat} (h : kNz s) : kNz (kP1 x k s) := by
  unfold kP1
  split
  · exact h
  · next z =>
    intro j hj
    show 1 ≤ kUpN s.1 s.2 (kSn x k) j
    unfold kUpN
    split
    · exact kSn_1 z
    · exact h j (by have hj2 : j < s.2 + 1 := hj; omega)
theorem kFed_nz {a b c d e : Int32} {t : Nat → Nat} {k : Nat} (h : ∀ j : Nat, j < k → 1 ≤ t j) : kNz (kFed a b c d e t k) := by
  have h0 : kNz (t, k) := h
  unfold kFed
  split
  · exact h0
  · unfold kPut
    exact kP1_nz (kP1_nz (kP1_nz (kP1_nz (kP1_nz (kP1_nz (kP1_nz (kP1_nz (kP1_nz (kP1_nz (kP1_nz (kP1_nz (kP1_nz (kP1_nz (kP1_nz (kP1_nz (kP1_nz (kP1_nz (kP1_nz (kP1_nz h0)))))))))))))))))))
theorem kHgT {g : Nat → Int32} {t : Nat → Nat} (h : ∀ j : Nat, g j = nI (t j)) (h8 : ∀ j : Nat, t j < 256) : ∀ j : Nat, narrow .char (.int (g j)) = .int (g j) := fun j => by rw [h j]; exact kNarCh (h8 j)
/-- what end answers, and how long the tape is then -/
def kEnA (n : Int32) (k : Nat) : Int32 := if n < 0 then 0 else if nI k < n then 0 else 1
def kEnK (n : Int32) (k : Nat) : Nat := if n < 0 then k else if nI k < n then k else Int32.toNatClampNeg n
/-- what a told text becomes: nothing, a law, a turning -/
def kTc (s : Int32) (o0 o1 : Bool) (kl ku : Nat) : Nat := if s = 0 then (if kl < 6 then (if o0 then 1 else 0) else 0) else if s = 1 then (if ku < 8 then (if o1 then 2 else 0) else 0) else 0
def kTcA (c kl ku : Nat) : Int32 := if c = 1 then nI kl else if c = 2 then nI ku else -1
def kTcT (c kt : Nat) : Nat := if c = 0 then kt else 0
def kTcL (c kl : Nat) : Nat := if c = 1 then kl + 1 else kl
def kTcU (c ku : Nat) : Nat := if c = 2 then ku + 1 else ku
def kFtA (s : Int32) (o0 : Bool) (p0 : Nat) (o1 : Bool) (p1 : Nat) : Int32 := if s = 0 then kFt o0 p0 else if s = 1 then kFt o1 p1 else -2
def kCtA (w : Int32) (kl ku ks kw kn ka kt : Nat) : Int32 := if w = 0 then nI kl else if w = 1 then nI ku else if w = 2 then nI ks else if w = 3 then nI kw else if w = 4 then nI kn else if w = 5 then nI ka else if w = 6 then nI kt else -1

