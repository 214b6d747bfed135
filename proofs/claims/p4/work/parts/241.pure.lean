/-- a byte at a place, 0 behind the end -/
def kAt (b : Nat → Nat) (n p : Nat) : Nat := if p < n then b p else 0
/-- over blanks, so many at most -/
def kSk (b : Nat → Nat) (n : Nat) : Nat → Nat → Nat
  | 0, p => p
  | f + 1, p => if kAt b n p = 32 then kSk b n f (p + 1) else p
def kSp (b : Nat → Nat) (n p : Nat) : Nat := kSk b n 120 p
def kLk (b : Nat → Nat) (n p : Nat) : Nat := kAt b n (kSp b n p)
theorem kAt_lt {b : Nat → Nat} {n p : Nat} (h : ¬ kAt b n p = 0) : p < n := by
  unfold kAt at h
  by_cases z : p < n
  · exact z
  · rw [if_neg z] at h; exact absurd rfl h
theorem kAt_ge {b : Nat → Nat} {n p : Nat} (h : n ≤ p) : kAt b n p = 0 := by unfold kAt; rw [if_neg (by omega)]
theorem kAt_b {b : Nat → Nat} (hb : ∀ j, b j < 256) (n p : Nat) : kAt b n p < 256 := by
  unfold kAt
  split
  · exact hb p
  · omega
theorem kSk_ge (b : Nat → Nat) (n : Nat) : ∀ f p, p ≤ kSk b n f p := by
  intro f
  induction f with
  | zero => intro p; exact Nat.le_refl p
  | succ f ih =>
    intro p
    unfold kSk
    split
    · exact Nat.le_trans (Nat.le_succ p) (ih (p + 1))
    · exact Nat.le_refl p
theorem kSk_le {b : Nat → Nat} {n : Nat} : ∀ {f p}, p ≤ n → kSk b n f p ≤ n := by
  intro f
  induction f with
  | zero => intro p h; exact h
  | succ f ih =>
    intro p h
    unfold kSk
    by_cases z : kAt b n p = 32
    · rw [if_pos z]
      have := kAt_lt (b := b) (n := n) (p := p) (by rw [z]; decide)
      exact ih (by omega)
    · rw [if_neg z]; exact h
theorem kSk_stop {b : Nat → Nat} {n : Nat} : ∀ {f p}, n ≤ p + f → ¬ kAt b n (kSk b n f p) = 32 := by
  intro f
  induction f with
  | zero => intro p h; show ¬ kAt b n p = 32; rw [kAt_ge (by omega)]; decide
  | succ f ih =>
    intro p h
    unfold kSk
    by_cases z : kAt b n p = 32
    · rw [if_pos z]; exact ih (by omega)
    · rw [if_neg z]; exact z
theorem kSk_id {b : Nat → Nat} {n f p : Nat} (h : ¬ kAt b n p = 32) : kSk b n f p = p := by
  cases f with
  | zero => rfl
  | succ f => unfold kSk; rw [if_neg h]
theorem kSk_more {b : Nat → Nat} {n : Nat} : ∀ {f p}, n ≤ p + f → kSk b n (f + 1) p = kSk b n f p := by
  intro f
  induction f with
  | zero => intro p h; show kSk b n 1 p = p; exact kSk_id (by rw [kAt_ge (by omega)]; decide)
  | succ f ih =>
    intro p h
    show (if kAt b n p = 32 then kSk b n (f + 1) (p + 1) else p) = (if kAt b n p = 32 then kSk b n f (p + 1) else p)
    by_cases z : kAt b n p = 32
    · rw [if_pos z, if_pos z]; exact ih (by omega)
    · rw [if_neg z, if_neg z]
theorem kSk_s {b : Nat → Nat} {n f p : Nat} (h : kAt b n p = 32) : kSk b n (f + 1) p = kSk b n f (p + 1) := if_pos h
theorem kSp_ge (b : Nat → Nat) (n p : Nat) : p ≤ kSp b n p := kSk_ge b n 120 p
theorem kSp_le {b : Nat → Nat} {n p : Nat} (h : p ≤ n) : kSp b n p ≤ n := kSk_le h
theorem kLk_n {b : Nat → Nat} {n p : Nat} (hn : n ≤ 120) : ¬ kLk b n p = 32 := kSk_stop (by omega)
theorem kSp_id {b : Nat → Nat} {n p : Nat} (h : ¬ kAt b n p = 32) : kSp b n p = p := kSk_id h
theorem kSp_sp {b : Nat → Nat} {n p : Nat} (hn : n ≤ 120) : kSp b n (kSp b n p) = kSp b n p := kSp_id (kLk_n hn)
theorem kLk_sp {b : Nat → Nat} {n p : Nat} (hn : n ≤ 120) : kLk b n (kSp b n p) = kLk b n p := by unfold kLk; rw [kSp_sp hn]
/-- a blank is stepped over -/
theorem kSp_step {b : Nat → Nat} {n p : Nat} (hn : n ≤ 120) (h : kAt b n p = 32) : kSp b n (p + 1) = kSp b n p := by
  unfold kSp
  show kSk b n 120 (p + 1) = (if kAt b n p = 32 then kSk b n 119 (p + 1) else p)
  rw [if_pos h]
  exact kSk_more (by omega)
theorem kLk_lt {b : Nat → Nat} {n p : Nat} (h : ¬ kLk b n p = 0) : kSp b n p < n := kAt_lt h
/-- ok, where it stands, what was written -/
abbrev kRes : Type := Bool × Nat × List Int32
def kBo (x : Bool) : Int32 := if x then 1 else 0
theorem kBo_t {x : Bool} (h : ¬ kBo x = 0) : x = true := by cases x with
  | true => rfl
  | false => exact absurd rfl h
theorem kBo_f {x : Bool} (h : kBo x = 0) : x = false := by cases x with
  | true => exact absurd h (by decide)
  | false => rfl
theorem kBo_nar (x : Bool) : narrow .boolean (.int (kBo x)) = .int (kBo x) := by cases x <;> rfl
def kTh (r : kRes) (k : Nat → List Int32 → kRes) : kRes := if r.1 then k r.2.1 r.2.2 else (false, r.2.1, [])
theorem kTh_t (p : Nat) (l : List Int32) (k : Nat → List Int32 → kRes) : kTh (true, p, l) k = k p l := rfl
theorem kTh_f (p : Nat) (l : List Int32) (k : Nat → List Int32 → kRes) : kTh (false, p, l) k = (false, p, []) := rfl
def kTk (b : Nat → Nat) (n c p : Nat) (l : List Int32) : kRes := if kLk b n p = c then (true, kSp b n p + 1, l) else (false, kSp b n p, [])
def kDg (c : Nat) : Bool := Nat.ble 48 c && Nat.ble c 57
theorem kDg_t {c : Nat} : kDg c = true ↔ 48 ≤ c ∧ c ≤ 57 := by
  unfold kDg
  rw [Bool.and_eq_true, Nat.ble_eq, Nat.ble_eq]
/-- up to so many digits -/
def kNumL (b : Nat → Nat) (n : Nat) : Nat → Nat → Nat → Nat × Nat
  | 0, p, v => (p, v)
  | f + 1, p, v => if kDg (kAt b n p) then kNumL b n f (p + 1) (v * 10 + (kAt b n p - 48)) else (p, v)
def kNum (b : Nat → Nat) (n p : Nat) : kRes := if kDg (kAt b n (kNumL b n 4 p 0).1) then (false, (kNumL b n 4 p 0).1, []) else (true, (kNumL b n 4 p 0).1, [nI (kNumL b n 4 p 0).2])
/-- where a sign stands in a text of n; n: nowhere -/
def kFd (g : Nat → Int32) (c : Int32) : Nat → Nat → Nat
  | 0, j => j
  | f + 1, j => if g j = c then j else kFd g c f (j + 1)
def kIx (g : Nat → Int32) (n : Nat) (c : Int32) : Nat := kFd g c n 0
def kAtomF (b : Nat → Nat) (n : Nat) (g : Nat → Int32) (m : Nat) (op : Bool) (sm : Nat → kRes) (p : Nat) : kRes :=
  if kLk b n p = 91 then (if op then kTh (sm (kSp b n p + 1)) (fun q l => kTk b n 93 q l) else (false, kSp b n p, []))
  else if kDg (kLk b n p) then kNum b n (kSp b n p)
  else if kIx g m (nI (kLk b n p)) < m then (true, kSp b n p + 1, [nI (10000 + kIx g m (nI (kLk b n p)))]) else (false, kSp b n p, [])
/-- while one of two signs stands there -/
def kLoop (b : Nat → Nat) (n c1 c2 : Nat) (a : Nat → kRes) : Nat → Nat → List Int32 → kRes
  | 0, p, l => (true, p, l)
  | f + 1, p, l => if kLk b n p = c1 ∨ kLk b n p = c2 then kTh (a (kSp b n p + 1)) (fun q m => kLoop b n c1 c2 a f q (l ++ m ++ [nI (20000 + kLk b n p)])) else (true, kSp b n p, l)
def kMany (b : Nat → Nat) (n c1 c2 : Nat) (a z : Nat → kRes) (p : Nat) : kRes := kTh (z p) (fun q l => kLoop b n c1 c2 a 120 q l)
def kSumF (b : Nat → Nat) (n : Nat) (a : Nat → kRes) (p : Nat) : kRes := kMany b n 43 45 (kMany b n 42 47 a a) (kMany b n 42 47 a a) p
def kAtomD (b : Nat → Nat) (n : Nat) (g : Nat → Int32) (m : Nat) : Nat → Nat → kRes
  | 0 => kAtomF b n g m false (fun p => (false, p, []))
  | e + 1 => kAtomF b n g m true (kSumF b n (kAtomD b n g m e))
def kTermD (b : Nat → Nat) (n : Nat) (g : Nat → Int32) (m e p : Nat) : kRes := kMany b n 42 47 (kAtomD b n g m e) (kAtomD b n g m e) p
def kSumD (b : Nat → Nat) (n : Nat) (g : Nat → Int32) (m e p : Nat) : kRes := kMany b n 43 45 (kTermD b n g m e) (kTermD b n g m e) p
def kCp (c : Nat) : Prop := c = 61 ∨ c = 60 ∨ c = 62
def kCmp (b : Nat → Nat) (n : Nat) (g : Nat → Int32) (m e p : Nat) (l : List Int32) : kRes :=
  if kLk b n p = 61 ∨ kLk b n p = 60 ∨ kLk b n p = 62 then kTh (kSumD b n g m e (kSp b n p + 1)) (fun q k => (true, q, l ++ k ++ [nI (20000 + kLk b n p)])) else (false, kSp b n p, [])
def kUnitF (b : Nat → Nat) (n : Nat) (g : Nat → Int32) (m e : Nat) (op : Bool) (u c : Nat → kRes) (p : Nat) : kRes :=
  if kLk b n p = 33 then (if op then kTh (u (kSp b n p + 1)) (fun q l => (true, q, l ++ [20033])) else (false, kSp b n p, []))
  else if kLk b n p = 40 then (if op then kTh (c (kSp b n p + 1)) (fun q l => kTk b n 41 q l) else (false, kSp b n p, []))
  else kTh (kSumD b n g m e (kSp b n p)) (fun q l => kCmp b n g m e q l)
def kTruF (b : Nat → Nat) (n : Nat) (u z : Nat → kRes) (p : Nat) : kRes := kMany b n 38 38 u z p
def kConF (b : Nat → Nat) (n : Nat) (t z : Nat → kRes) (p : Nat) : kRes := kMany b n 124 124 t z p
def kUnitD (b : Nat → Nat) (n : Nat) (g : Nat → Int32) (m : Nat) : Nat → Nat → kRes
  | 0 => kUnitF b n g m 0 false (fun p => (false, p, [])) (fun p => (false, p, []))
  | e + 1 => kUnitF b n g m (e + 1) true (kUnitD b n g m e) (kConF b n (kTruF b n (kUnitD b n g m e) (kUnitD b n g m e)) (kTruF b n (kUnitD b n g m e) (kUnitD b n g m e)))
def kTruD (b : Nat → Nat) (n : Nat) (g : Nat → Int32) (m e p : Nat) : kRes := kTruF b n (kUnitD b n g m e) (kUnitD b n g m e) p
def kConD (b : Nat → Nat) (n : Nat) (g : Nat → Int32) (m e p : Nat) : kRes := kConF b n (kTruD b n g m e) (kTruD b n g m e) p
/-- the same where the first sum is read -/
def kUnitZ (b : Nat → Nat) (n : Nat) (g : Nat → Int32) (m e p : Nat) : kRes := kCmp b n g m e p []
def kTruZ (b : Nat → Nat) (n : Nat) (g : Nat → Int32) (m e p : Nat) : kRes := kTruF b n (kUnitD b n g m e) (kUnitZ b n g m e) p
def kConZ (b : Nat → Nat) (n : Nat) (g : Nat → Int32) (m e p : Nat) : kRes := kConF b n (kTruD b n g m e) (kTruZ b n g m e) p
/-- what is written, into a row -/
def kWrt (s : Nat → Int32) : Nat → List Int32 → Nat → Int32
  | _, [] => s
  | k, x :: l => kWrt (upd s k x) (k + 1) l
theorem kWrt_nil (s : Nat → Int32) (k : Nat) : kWrt s k [] = s := rfl
theorem kWrt_app (l2 : List Int32) : ∀ (l1 : List Int32) (s : Nat → Int32) (k : Nat), kWrt (kWrt s k l1) (k + l1.length) l2 = kWrt s k (l1 ++ l2) := by
  intro l1
  induction l1 with
  | nil => intro s k; rfl
  | cons x l1 ih =>
    intro s k
    show kWrt (kWrt (upd s k x) (k + 1) l1) (k + (l1.length + 1)) l2 = kWrt (upd s k x) (k + 1) (l1 ++ l2)
    rw [show k + (l1.length + 1) = k + 1 + l1.length by omega]
    exact ih (upd s k x) (k + 1)
theorem kWrt_one (s : Nat → Int32) (k : Nat) (x : Int32) : kWrt s k [x] = upd s k x := rfl
/-- a reading that goes on and stays within -/
def kGood (n : Nat) (a : Nat → kRes) : Prop := ∀ p, p ≤ n → (a p).2.1 ≤ n ∧ ((a p).1 = true → p + (a p).2.2.length ≤ (a p).2.1 ∧ p < (a p).2.1)
theorem kNumL_b {b : Nat → Nat} {n : Nat} : ∀ (f p v : Nat), p ≤ n → p ≤ (kNumL b n f p v).1 ∧ (kNumL b n f p v).1 ≤ n := by
  intro f
  induction f with
  | zero => intro p v h; exact ⟨Nat.le_refl p, h⟩
  | succ f ih =>
    intro p v h
    unfold kNumL
    by_cases z : kDg (kAt b n p) = true
    · rw [if_pos z]
      have hz := kDg_t.mp z
      have hp := kAt_lt (b := b) (n := n) (p := p) (by omega)
      have := ih (p + 1) (v * 10 + (kAt b n p - 48)) (by omega)
      omega
    · rw [if_neg z]; exact ⟨Nat.le_refl p, h⟩
theorem kNum_good {b : Nat → Nat} {n p : Nat} (h : p ≤ n) (hd : kDg (kAt b n p) = true) : (kNum b n p).2.1 ≤ n ∧ ((kNum b n p).1 = true → p + (kNum b n p).2.2.length ≤ (kNum b n p).2.1 ∧ p < (kNum b n p).2.1) := by
  have hz := kDg_t.mp hd
  have hp := kAt_lt (b := b) (n := n) (p := p) (by omega)
  have h1 : (kNumL b n 4 p 0) = kNumL b n 3 (p + 1) (0 * 10 + (kAt b n p - 48)) := by
    show (if kDg (kAt b n p) then kNumL b n 3 (p + 1) (0 * 10 + (kAt b n p - 48)) else (p, 0)) = _
    rw [if_pos hd]
  have h2 := kNumL_b (b := b) (n := n) 3 (p + 1) (0 * 10 + (kAt b n p - 48)) (by omega)
  rw [← h1] at h2
  unfold kNum
  split
  · exact ⟨h2.2, fun z => (Bool.false_ne_true z).elim⟩
  · exact ⟨h2.2, fun _ => ⟨by show p + 1 ≤ (kNumL b n 4 p 0).1; omega, by show p < (kNumL b n 4 p 0).1; omega⟩⟩
theorem kTh_good {n p : Nat} {r : kRes} {k : Nat → List Int32 → kRes} (hr : r.2.1 ≤ n) (hk : r.1 = true → (k r.2.1 r.2.2).2.1 ≤ n ∧ ((k r.2.1 r.2.2).1 = true → p + (k r.2.1 r.2.2).2.2.length ≤ (k r.2.1 r.2.2).2.1 ∧ p < (k r.2.1 r.2.2).2.1)) : (kTh r k).2.1 ≤ n ∧ ((kTh r k).1 = true → p + (kTh r k).2.2.length ≤ (kTh r k).2.1 ∧ p < (kTh r k).2.1) := by
  unfold kTh
  by_cases z : r.1 = true
  · rw [if_pos z]; exact hk z
  · rw [if_neg z]; exact ⟨hr, fun h => (Bool.false_ne_true h).elim⟩
theorem kTk_good {b : Nat → Nat} {n c p q : Nat} {l : List Int32} (hc : ¬ c = 0) (hq : q ≤ n) (hl : p + l.length ≤ q) : (kTk b n c q l).2.1 ≤ n ∧ ((kTk b n c q l).1 = true → p + (kTk b n c q l).2.2.length ≤ (kTk b n c q l).2.1 ∧ p < (kTk b n c q l).2.1) := by
  unfold kTk
  have h1 := kSp_ge b n q
  by_cases z : kLk b n q = c
  · rw [if_pos z]
    have h2 := kLk_lt (b := b) (n := n) (p := q) (by rw [z]; exact hc)
    exact ⟨by show kSp b n q + 1 ≤ n; omega, fun _ => ⟨by show p + l.length ≤ kSp b n q + 1; omega, by show p < kSp b n q + 1; omega⟩⟩
  · rw [if_neg z]; exact ⟨kSp_le hq, fun h => (Bool.false_ne_true h).elim⟩
theorem kAtomF_good {b : Nat → Nat} {n : Nat} {g : Nat → Int32} {m : Nat} {op : Bool} {sm : Nat → kRes} (hs : kGood n sm) (hg : kIx g m (nI 0) = m) : kGood n (kAtomF b n g m op sm) := by
  intro p hp
  have h1 := kSp_ge b n p
  have h0 := kSp_le (b := b) hp
  unfold kAtomF
  by_cases z : kLk b n p = 91
  · rw [if_pos z]
    have h2 := kLk_lt (b := b) (n := n) (p := p) (by rw [z]; decide)
    cases op with
    | false => exact ⟨h0, fun h => (Bool.false_ne_true h).elim⟩
    | true =>
      have h3 := hs (kSp b n p + 1) (by omega)
      exact kTh_good h3.1 (fun e => kTk_good (by decide) h3.1 (by have := (h3.2 e).1; omega))
  · rw [if_neg z]
    by_cases y : kDg (kLk b n p) = true
    · rw [if_pos y]
      have h3 := kNum_good (b := b) h0 y
      exact ⟨h3.1, fun e => ⟨by have := (h3.2 e).1; omega, by have := (h3.2 e).2; omega⟩⟩
    · rw [if_neg y]
      by_cases x : kIx g m (nI (kLk b n p)) < m
      · rw [if_pos x]
        have h2 := kLk_lt (b := b) (n := n) (p := p) (fun e => by rw [e, hg] at x; omega)
        exact ⟨by show kSp b n p + 1 ≤ n; omega, fun _ => ⟨by show p + 1 ≤ kSp b n p + 1; omega, by show p < kSp b n p + 1; omega⟩⟩
      · rw [if_neg x]; exact ⟨h0, fun h => (Bool.false_ne_true h).elim⟩
theorem kLoop_good {b : Nat → Nat} {n c1 c2 : Nat} {a : Nat → kRes} (hc1 : ¬ c1 = 0) (hc2 : ¬ c2 = 0) (ha : kGood n a) {p : Nat} : ∀ (f q : Nat) (l : List Int32), q ≤ n → p + l.length ≤ q → p < q → (kLoop b n c1 c2 a f q l).2.1 ≤ n ∧ ((kLoop b n c1 c2 a f q l).1 = true → p + (kLoop b n c1 c2 a f q l).2.2.length ≤ (kLoop b n c1 c2 a f q l).2.1 ∧ p < (kLoop b n c1 c2 a f q l).2.1) := by
  intro f
  induction f with
  | zero => intro q l h1 h2 h3; exact ⟨h1, fun _ => ⟨h2, h3⟩⟩
  | succ f ih =>
    intro q l h1 h2 h3
    have h4 := kSp_ge b n q
    have h5 := kSp_le (b := b) h1
    unfold kLoop
    by_cases z : kLk b n q = c1 ∨ kLk b n q = c2
    · rw [if_pos z]
      have h6 := kLk_lt (b := b) (n := n) (p := q) (fun e => by rcases z with z | z <;> (rw [e] at z; omega))
      have h7 := ha (kSp b n q + 1) (by omega)
      refine kTh_good h7.1 (fun e => ih _ _ h7.1 ?_ ?_)
      · have := (h7.2 e).1
        simp only [List.length_append, List.length_cons, List.length_nil]
        omega
      · have := (h7.2 e).2; omega
    · rw [if_neg z]; exact ⟨h5, fun _ => ⟨by show p + l.length ≤ kSp b n q; omega, by show p < kSp b n q; omega⟩⟩
theorem kMany_good {b : Nat → Nat} {n c1 c2 : Nat} {a z : Nat → kRes} (hc1 : ¬ c1 = 0) (hc2 : ¬ c2 = 0) (ha : kGood n a) (hz : kGood n z) : kGood n (kMany b n c1 c2 a z) := by
  intro p hp
  have h := hz p hp
  exact kTh_good h.1 (fun e => kLoop_good hc1 hc2 ha 120 _ _ h.1 (h.2 e).1 (h.2 e).2)
theorem kSumF_good {b : Nat → Nat} {n : Nat} {a : Nat → kRes} (ha : kGood n a) : kGood n (kSumF b n a) :=
  kMany_good (by decide) (by decide) (kMany_good (by decide) (by decide) ha ha) (kMany_good (by decide) (by decide) ha ha)
theorem kFail_good (n : Nat) : kGood n (fun p => (false, p, [])) := fun _ hp => ⟨hp, fun h => (Bool.false_ne_true h).elim⟩
theorem kAtomD_good {b : Nat → Nat} {n : Nat} {g : Nat → Int32} {m : Nat} (hg : kIx g m (nI 0) = m) : ∀ e, kGood n (kAtomD b n g m e) := by
  intro e
  induction e with
  | zero => exact kAtomF_good (kFail_good n) hg
  | succ e ih => exact kAtomF_good (kSumF_good ih) hg
theorem kTermD_good {b : Nat → Nat} {n : Nat} {g : Nat → Int32} {m : Nat} (hg : kIx g m (nI 0) = m) (e : Nat) : kGood n (kTermD b n g m e) := kMany_good (by decide) (by decide) (kAtomD_good hg e) (kAtomD_good hg e)
theorem kSumD_good {b : Nat → Nat} {n : Nat} {g : Nat → Int32} {m : Nat} (hg : kIx g m (nI 0) = m) (e : Nat) : kGood n (kSumD b n g m e) := kMany_good (by decide) (by decide) (kTermD_good hg e) (kTermD_good hg e)
theorem kSumD_eq (b : Nat → Nat) (n : Nat) (g : Nat → Int32) (m e : Nat) : kSumF b n (kAtomD b n g m e) = kSumD b n g m e := rfl
theorem kCmp_good {b : Nat → Nat} {n : Nat} {g : Nat → Int32} {m : Nat} (hg : kIx g m (nI 0) = m) (e : Nat) {p q : Nat} {l : List Int32} (hq : q ≤ n) (hl : p + l.length ≤ q) : (kCmp b n g m e q l).2.1 ≤ n ∧ ((kCmp b n g m e q l).1 = true → p + (kCmp b n g m e q l).2.2.length ≤ (kCmp b n g m e q l).2.1 ∧ p < (kCmp b n g m e q l).2.1) := by
  have h4 := kSp_ge b n q
  unfold kCmp
  by_cases z : kLk b n q = 61 ∨ kLk b n q = 60 ∨ kLk b n q = 62
  · rw [if_pos z]
    have h6 := kLk_lt (b := b) (n := n) (p := q) (by omega)
    have h7 := kSumD_good (b := b) (n := n) hg e (kSp b n q + 1) (by omega)
    refine kTh_good (k := fun q2 k => (true, q2, l ++ k ++ [nI (20000 + kLk b n q)])) h7.1 (fun e => ⟨h7.1, fun _ => ⟨?_, ?_⟩⟩)
    · have := (h7.2 e).1
      show p + (l ++ _ ++ [_]).length ≤ _
      simp only [List.length_append, List.length_cons, List.length_nil]
      omega
    · have := (h7.2 e).2
      dsimp only
      omega
  · rw [if_neg z]; exact ⟨kSp_le hq, fun h => (Bool.false_ne_true h).elim⟩
theorem kUnitF_good {b : Nat → Nat} {n : Nat} {g : Nat → Int32} {m : Nat} (hg : kIx g m (nI 0) = m) {e : Nat} {op : Bool} {u c : Nat → kRes} (hu : kGood n u) (hc : kGood n c) : kGood n (kUnitF b n g m e op u c) := by
  intro p hp
  have h1 := kSp_ge b n p
  have h0 := kSp_le (b := b) hp
  unfold kUnitF
  by_cases z : kLk b n p = 33
  · rw [if_pos z]
    have h2 := kLk_lt (b := b) (n := n) (p := p) (by rw [z]; decide)
    cases op with
    | false => exact ⟨h0, fun h => (Bool.false_ne_true h).elim⟩
    | true =>
      have h3 := hu (kSp b n p + 1) (by omega)
      refine kTh_good (k := fun q l => (true, q, l ++ [20033])) h3.1 (fun e => ⟨h3.1, fun _ => ⟨?_, ?_⟩⟩)
      · have := (h3.2 e).1
        show p + (_ ++ [_]).length ≤ _
        simp only [List.length_append, List.length_cons, List.length_nil]
        omega
      · have := (h3.2 e).2
        dsimp only
        omega
  · rw [if_neg z]
    by_cases y : kLk b n p = 40
    · rw [if_pos y]
      have h2 := kLk_lt (b := b) (n := n) (p := p) (by rw [y]; decide)
      cases op with
      | false => exact ⟨h0, fun h => (Bool.false_ne_true h).elim⟩
      | true =>
        have h3 := hc (kSp b n p + 1) (by omega)
        exact kTh_good h3.1 (fun e => kTk_good (by decide) h3.1 (by have := (h3.2 e).1; omega))
    · rw [if_neg y]
      have h3 := kSumD_good (b := b) hg e (kSp b n p) h0
      exact kTh_good h3.1 (fun e => kCmp_good hg _ h3.1 (by have := (h3.2 e).1; omega))
theorem kUnitD_good {b : Nat → Nat} {n : Nat} {g : Nat → Int32} {m : Nat} (hg : kIx g m (nI 0) = m) : ∀ e, kGood n (kUnitD b n g m e) := by
  intro e
  induction e with
  | zero => exact kUnitF_good hg (kFail_good n) (kFail_good n)
  | succ e ih =>
    have ht : kGood n (kTruF b n (kUnitD b n g m e) (kUnitD b n g m e)) := kMany_good (by decide) (by decide) ih ih
    exact kUnitF_good hg ih (kMany_good (by decide) (by decide) ht ht)
theorem kTruD_good {b : Nat → Nat} {n : Nat} {g : Nat → Int32} {m : Nat} (hg : kIx g m (nI 0) = m) (e : Nat) : kGood n (kTruD b n g m e) := kMany_good (by decide) (by decide) (kUnitD_good hg e) (kUnitD_good hg e)
theorem kConD_good {b : Nat → Nat} {n : Nat} {g : Nat → Int32} {m : Nat} (hg : kIx g m (nI 0) = m) (e : Nat) : kGood n (kConD b n g m e) := kMany_good (by decide) (by decide) (kTruD_good hg e) (kTruD_good hg e)
theorem kUnitZ_good {b : Nat → Nat} {n : Nat} {g : Nat → Int32} {m : Nat} (hg : kIx g m (nI 0) = m) (e : Nat) : kGood n (kUnitZ b n g m e) := fun p hp => kCmp_good hg e hp (Nat.le_refl p)
theorem kTruZ_good {b : Nat → Nat} {n : Nat} {g : Nat → Int32} {m : Nat} (hg : kIx g m (nI 0) = m) (e : Nat) : kGood n (kTruZ b n g m e) := kMany_good (by decide) (by decide) (kUnitD_good hg e) (kUnitZ_good hg e)
theorem kConZ_good {b : Nat → Nat} {n : Nat} {g : Nat → Int32} {m : Nat} (hg : kIx g m (nI 0) = m) (e : Nat) : kGood n (kConZ b n g m e) := kMany_good (by decide) (by decide) (kTruD_good hg e) (kTruZ_good hg e)
theorem kTk_l {b : Nat → Nat} {n c q P : Nat} (l : List Int32) (h : kTk b n c q [] = (true, P, [])) : kTk b n c q l = (true, P, l) := by
  unfold kTk at h ⊢
  by_cases z : kLk b n q = c
  · rw [if_pos z] at h ⊢
    have := (Prod.mk.inj (Prod.mk.inj h).2).1
    rw [this]
  · rw [if_neg z] at h; exact absurd (Prod.mk.inj h).1 (by decide)
theorem kTk_n {b : Nat → Nat} {n c q P : Nat} (l : List Int32) (h : kTk b n c q [] = (false, P, [])) : kTk b n c q l = (false, P, []) := by
  unfold kTk at h ⊢
  by_cases z : kLk b n q = c
  · rw [if_pos z] at h; exact absurd (Prod.mk.inj h).1 (by decide)
  · rw [if_neg z] at h ⊢; exact h
theorem kNumL_s {b : Nat → Nat} {n f p v : Nat} (h : 48 ≤ kAt b n p ∧ kAt b n p ≤ 57) : kNumL b n (f + 1) p v = kNumL b n f (p + 1) (v * 10 + (kAt b n p - 48)) := if_pos (kDg_t.mpr h)
theorem kNumL_n {b : Nat → Nat} {n f p v : Nat} (h : ¬ (48 ≤ kAt b n p ∧ kAt b n p ≤ 57)) : kNumL b n f p v = (p, v) := by
  cases f with
  | zero => rfl
  | succ f => exact if_neg (fun z => h (kDg_t.mp z))
theorem kNum_t {b : Nat → Nat} {n p q v : Nat} (h : kNumL b n 4 p 0 = (q, v)) (hd : ¬ (48 ≤ kAt b n q ∧ kAt b n q ≤ 57)) : kNum b n p = (true, q, [nI v]) := by
  unfold kNum
  rw [h]
  exact if_neg (fun z => hd (kDg_t.mp z))
theorem kNum_f {b : Nat → Nat} {n p q v : Nat} (h : kNumL b n 4 p 0 = (q, v)) (hd : 48 ≤ kAt b n q ∧ kAt b n q ≤ 57) : kNum b n p = (false, q, []) := by
  unfold kNum
  rw [h]
  exact if_pos (kDg_t.mpr hd)
/-- what a reading method says of its reading -/
def kPR (X : kRes) (pn kt wr : Nat) (s1 : Nat → Int32) (xo : Bool) (P : Nat) (xl : List Int32) (W : Nat) (S : Nat → Int32) : Prop := X = (xo, P, xl) ∧ P ≤ kt ∧ (xo = true → W = wr + xl.length ∧ S = kWrt s1 wr xl ∧ pn + xl.length ≤ P ∧ pn < P)
theorem kPR_f {X : kRes} {pn kt wr P W : Nat} {s1 S : Nat → Int32} (h : X = (false, P, [])) (hP : P ≤ kt) : kPR X pn kt wr s1 false P [] W S := ⟨h, hP, fun z => (Bool.false_ne_true z).elim⟩
theorem kPR_t {X : kRes} {n pn wr P W : Nat} {s1 S : Nat → Int32} {xl : List Int32} {a : Nat → kRes} (hX : X = a pn) (hg : kGood n a) (hp : pn ≤ n) (h : X = (true, P, xl)) (hW : W = wr + xl.length) (hS : S = kWrt s1 wr xl) : kPR X pn n wr s1 true P xl W S := by
  have h1 := hg pn hp
  rw [← hX, h] at h1
  exact ⟨h, h1.1, fun _ => ⟨hW, hS, (h1.2 rfl).1, (h1.2 rfl).2⟩⟩
theorem kLoop_z (b : Nat → Nat) (n c1 c2 : Nat) (a : Nat → kRes) (p : Nat) (l : List Int32) : kLoop b n c1 c2 a 0 p l = (true, p, l) := rfl
theorem kLoop_e {b : Nat → Nat} {n c1 c2 : Nat} {a : Nat → kRes} {f p : Nat} {l : List Int32} (h : ¬ (kLk b n p = c1 ∨ kLk b n p = c2)) : kLoop b n c1 c2 a (f + 1) p l = (true, kSp b n p, l) := if_neg h
theorem kLoop_f {b : Nat → Nat} {n c1 c2 : Nat} {a : Nat → kRes} {f p q : Nat} {l m : List Int32} (h : kLk b n p = c1 ∨ kLk b n p = c2) (ha : a (kSp b n p + 1) = (false, q, m)) : kLoop b n c1 c2 a (f + 1) p l = (false, q, []) := (if_pos h).trans (by rw [ha]; rfl)
theorem kLoop_t {b : Nat → Nat} {n c1 c2 : Nat} {a : Nat → kRes} {f p q : Nat} {l m : List Int32} (h : kLk b n p = c1 ∨ kLk b n p = c2) (ha : a (kSp b n p + 1) = (true, q, m)) : kLoop b n c1 c2 a (f + 1) p l = kLoop b n c1 c2 a f q (l ++ m ++ [nI (20000 + kLk b n p)]) := (if_pos h).trans (by rw [ha]; rfl)
theorem kMany_f {b : Nat → Nat} {n c1 c2 : Nat} {a z : Nat → kRes} {p q : Nat} {l : List Int32} (h : z p = (false, q, l)) : kMany b n c1 c2 a z p = (false, q, []) := by unfold kMany; rw [h]; rfl
theorem kMany_t {b : Nat → Nat} {n c1 c2 : Nat} {a z : Nat → kRes} {p q : Nat} {l : List Int32} (h : z p = (true, q, l)) : kMany b n c1 c2 a z p = kLoop b n c1 c2 a 120 q l := by unfold kMany; rw [h]; rfl
/-- where a sign stands in a text -/
theorem kFd_b (g : Nat → Int32) (c : Int32) : ∀ f j, j ≤ kFd g c f j ∧ kFd g c f j ≤ j + f := by
  intro f
  induction f with
  | zero => intro j; exact ⟨Nat.le_refl j, Nat.le_refl j⟩
  | succ f ih =>
    intro j
    unfold kFd
    split
    · exact ⟨Nat.le_refl j, by omega⟩
    · have := ih (j + 1); omega
theorem kFd_s {g : Nat → Int32} {c : Int32} {f j : Nat} (h : ¬ g j = c) : kFd g c (f + 1) j = kFd g c f (j + 1) := if_neg h
theorem kFd_h {g : Nat → Int32} {c : Int32} {f j : Nat} (h : g j = c) : kFd g c (f + 1) j = j := if_pos h
theorem kIx_le (g : Nat → Int32) (n : Nat) (c : Int32) : kIx g n c ≤ n := by have := (kFd_b g c n 0).2; unfold kIx; omega
theorem kNarChF : ∀ v : Fin 256, narrow .char (.int (nI v.val)) = .int (nI v.val) := by decide +kernel
theorem kNarCh {v : Nat} (h : v < 256) : narrow .char (.int (nI v)) = .int (nI v) := kNarChF ⟨v, h⟩
/-- a clause: ok, place, its steps, the label's number, how long the condition is -/
abbrev kClR : Type := Bool × Nat × List Int32 × Nat × Nat
def kThC (r : kRes) (k : Nat → List Int32 → kClR) : kClR := if r.1 then k r.2.1 r.2.2 else (false, r.2.1, [], 0, 0)
theorem kThC_t (p : Nat) (l : List Int32) (k : Nat → List Int32 → kClR) : kThC (true, p, l) k = k p l := rfl
theorem kThC_f (p : Nat) (l : List Int32) (k : Nat → List Int32 → kClR) : kThC (false, p, l) k = (false, p, [], 0, 0) := rfl
/-- behind a condition: '?' and the sum -/
def kCla2 (b : Nat → Nat) (n : Nat) (g : Nat → Int32) (m j p : Nat) (l : List Int32) : kClR :=
  kThC (kTk b n 63 p []) (fun q _ => kThC (kSumD b n g m 6 q) (fun q2 k => (true, q2, l ++ k, j, l.length)))
/-- behind the label -/
def kCla1 (b : Nat → Nat) (n : Nat) (g : Nat → Int32) (m j p : Nat) : kClR :=
  if kLk b n p = 33 ∨ kLk b n p = 40 then kThC (kConD b n g m 6 (kSp b n p)) (fun q l => kCla2 b n g m j q l)
  else kThC (kSumD b n g m 6 (kSp b n p)) (fun q l =>
    if kLk b n q = 61 ∨ kLk b n q = 60 ∨ kLk b n q = 62 then kThC (kConZ b n g m 6 (kSp b n q)) (fun q2 k => kCla2 b n g m j q2 (l ++ k))
    else (true, kSp b n q, l, j, 0))
def kCla (b : Nat → Nat) (n : Nat) (g6 : Nat → Int32) (n6 : Nat) (g : Nat → Int32) (m p : Nat) : kClR :=
  if kIx g6 n6 (nI (kLk b n p)) < n6 then kThC (kTk b n 58 (kSp b n p + 1) []) (fun q _ => kCla1 b n g m (kIx g6 n6 (nI (kLk b n p))) q)
  else (false, kSp b n p, [], 0, 0)
/-- a text: ok, the fault's place, all steps, the rows of the clauses -/
def kRdL (b : Nat → Nat) (n : Nat) (g6 : Nat → Int32) (n6 : Nat) (g : Nat → Int32) (m : Nat) : Nat → Nat → List Int32 → List Int32 → Bool × Nat × List Int32 × List Int32
  | 0, p, _, _ => (false, p, [], [])
  | f + 1, p, l, c =>
    if (kCla b n g6 n6 g m p).1 then
      (if kLk b n (kCla b n g6 n6 g m p).2.1 = 0 then (true, kSp b n (kCla b n g6 n6 g m p).2.1, l ++ (kCla b n g6 n6 g m p).2.2.1, c ++ [nI (kCla b n g6 n6 g m p).2.2.2.1, nI l.length, nI (l.length + (kCla b n g6 n6 g m p).2.2.2.2), nI (l.length + (kCla b n g6 n6 g m p).2.2.1.length)])
       else if kLk b n (kCla b n g6 n6 g m p).2.1 = 59 then kRdL b n g6 n6 g m f (kSp b n (kCla b n g6 n6 g m p).2.1 + 1) (l ++ (kCla b n g6 n6 g m p).2.2.1) (c ++ [nI (kCla b n g6 n6 g m p).2.2.2.1, nI l.length, nI (l.length + (kCla b n g6 n6 g m p).2.2.2.2), nI (l.length + (kCla b n g6 n6 g m p).2.2.1.length)])
       else (false, kSp b n (kCla b n g6 n6 g m p).2.1, [], []))
    else (false, (kCla b n g6 n6 g m p).2.1, [], [])
def kRead (b : Nat → Nat) (n : Nat) (g6 : Nat → Int32) (n6 : Nat) (g : Nat → Int32) (m : Nat) : Bool × Nat × List Int32 × List Int32 := kRdL b n g6 n6 g m 31 0 [] []
/-- behind a clause that stands: the end, or a semicolon and more -/
def kRdA (b : Nat → Nat) (n : Nat) (g6 : Nat → Int32) (n6 : Nat) (g : Nat → Int32) (m : Nat) (f q : Nat) (l c : List Int32) : Bool × Nat × List Int32 × List Int32 :=
  if kLk b n q = 0 then (true, kSp b n q, l, c) else if kLk b n q = 59 then kRdL b n g6 n6 g m f (kSp b n q + 1) l c else (false, kSp b n q, [], [])
theorem kRdL_t {b : Nat → Nat} {n : Nat} {g6 : Nat → Int32} {n6 : Nat} {g : Nat → Int32} {m f p q j k : Nat} {l c x : List Int32} (h : kCla b n g6 n6 g m p = (true, q, x, j, k)) : kRdL b n g6 n6 g m (f + 1) p l c = kRdA b n g6 n6 g m f q (l ++ x) (c ++ [nI j, nI l.length, nI (l.length + k), nI (l.length + x.length)]) := by
  unfold kRdL
  rw [h]
  rfl
theorem kRdL_f {b : Nat → Nat} {n : Nat} {g6 : Nat → Int32} {n6 : Nat} {g : Nat → Int32} {m f p q j k : Nat} {l c x : List Int32} (h : kCla b n g6 n6 g m p = (false, q, x, j, k)) : kRdL b n g6 n6 g m (f + 1) p l c = (false, q, [], []) := by
  unfold kRdL
  rw [h]
  rfl
theorem kRdA_0 {b : Nat → Nat} {n : Nat} {g6 : Nat → Int32} {n6 : Nat} {g : Nat → Int32} {m f q : Nat} {l c : List Int32} (h : kLk b n q = 0) : kRdA b n g6 n6 g m f q l c = (true, kSp b n q, l, c) := if_pos h
theorem kRdA_s {b : Nat → Nat} {n : Nat} {g6 : Nat → Int32} {n6 : Nat} {g : Nat → Int32} {m f q : Nat} {l c : List Int32} (h : kLk b n q = 59) : kRdA b n g6 n6 g m f q l c = kRdL b n g6 n6 g m f (kSp b n q + 1) l c := (if_neg (by omega)).trans (if_pos h)
theorem kRdA_f {b : Nat → Nat} {n : Nat} {g6 : Nat → Int32} {n6 : Nat} {g : Nat → Int32} {m f q : Nat} {l c : List Int32} (h : ¬ kLk b n q = 0) (h2 : ¬ kLk b n q = 59) : kRdA b n g6 n6 g m f q l c = (false, kSp b n q, [], []) := (if_neg h).trans (if_neg h2)
/-- the fault by a reading -/
def kFt (xo : Bool) (p : Nat) : Int32 := if xo then -1 else nI p
theorem kKeep {S2 s2 : Nat → Int32} {fi j wr a b x y : Nat} (h : S2 = kWrt s2 fi [nI j, nI wr, nI a, nI b]) (ha : a = x) (hb : b = y) : S2 = kWrt s2 fi [nI j, nI wr, nI x, nI y] := by subst ha; subst hb; exact h
theorem kWrtN {s s1 s2 : Nat → Int32} {l1 l2 : List Int32} {k : Nat} (h1 : s1 = kWrt s 0 l1) (hk : k = l1.length) (h2 : s2 = kWrt s1 k l2) : s2 = kWrt s 0 (l1 ++ l2) := by
  subst h1; subst hk; subst h2
  rw [← kWrt_app l2 l1 s 0, Nat.zero_add]
theorem kBy8F : ∀ v : Fin 256, (Int32.toInt8 (nI v.val)).toInt32 = if v.val < 128 then nI v.val else nI v.val - 256 := by decide +kernel
theorem kByNF : ∀ v : Fin 256, 128 ≤ v.val → (nI v.val - 256) < 0 := by decide +kernel
theorem kByEq {x : Int32} {pc : Nat} (hv : ∃ v : Nat, v < 128 ∧ x = nI v) (hpc : pc < 256) : (x = (Int32.toInt8 (nI pc)).toInt32 ↔ x = nI pc) := by
  obtain ⟨v, hv, rfl⟩ := hv
  rw [kBy8F ⟨pc, hpc⟩]
  by_cases z : pc < 128
  · rw [if_pos z]
  · rw [if_neg z]
    constructor
    · intro e
      have h := kByNF ⟨pc, hpc⟩ (by show 128 ≤ pc; omega)
      rw [← e] at h
      exact absurd h (nI_pos (n := v) (by omega))
    · intro e
      have := keq (a := v) (b := pc) (by omega) (by omega) e
      omega
theorem kIx_0 {g : Nat → Int32} {n : Nat} {c : Int32} (h : n = 0) : kIx g n c = n := by subst h; rfl
theorem kAtomD_s {b : Nat → Nat} {n : Nat} {g : Nat → Int32} {m : Nat} (e p : Nat) : kAtomD b n g m (e + 1) p = kAtomF b n g m true (kSumD b n g m e) p := rfl
theorem kAtomD_z {b : Nat → Nat} {n : Nat} {g : Nat → Int32} {m : Nat} (p : Nat) : kAtomD b n g m 0 p = kAtomF b n g m false (fun p => (false, p, [])) p := rfl
theorem kUnitD_s {b : Nat → Nat} {n : Nat} {g : Nat → Int32} {m : Nat} (e p : Nat) : kUnitD b n g m (e + 1) p = kUnitF b n g m (e + 1) true (kUnitD b n g m e) (kConD b n g m e) p := rfl
theorem kUnitD_z {b : Nat → Nat} {n : Nat} {g : Nat → Int32} {m : Nat} (p : Nat) : kUnitD b n g m 0 p = kUnitF b n g m 0 false (fun p => (false, p, [])) (fun p => (false, p, [])) p := rfl
theorem kPR_up {X Y : kRes} {pn p2 kt wr P W : Nat} {s1 S : Nat → Int32} {xo : Bool} {xl : List Int32} (hX : X = Y) (h : kPR Y p2 kt wr s1 xo P xl W S) (hp : pn ≤ p2) : kPR X pn kt wr s1 xo P xl W S := ⟨hX.trans h.1, h.2.1, fun z => ⟨(h.2.2 z).1, (h.2.2 z).2.1, by have := (h.2.2 z).2.2.1; omega, by have := (h.2.2 z).2.2.2; omega⟩⟩
theorem kWrt3 {s1 xs1 S1 S2 : Nat → Int32} {wr xwr W1 : Nat} {xl m : List Int32} {x : Int32} (h5 : xs1 = kWrt s1 wr xl) (h4 : xwr = wr + xl.length) (hS : S1 = kWrt xs1 xwr m) (hW : W1 = xwr + m.length) (hw : S2 = upd S1 W1 x) : S2 = kWrt s1 wr (xl ++ m ++ [x]) := by
  subst h5; subst h4; subst hS; subst hW; subst hw
  rw [kWrt_app]
  rw [← kWrt_app [x] (xl ++ m) s1 wr, kWrt_one, List.length_append, Nat.add_assoc]
theorem kWrt2 {s1 S1 S2 : Nat → Int32} {wr W1 : Nat} {m : List Int32} {x : Int32} (hS : S1 = kWrt s1 wr m) (hW : W1 = wr + m.length) (hw : S2 = upd S1 W1 x) : S2 = kWrt s1 wr (m ++ [x]) := by
  subst hS; subst hW; subst hw
  rw [← kWrt_app [x] m s1 wr, kWrt_one]
theorem kWrtC {s1 xs1 S1 : Nat → Int32} {wr xwr : Nat} {xl m : List Int32} (h5 : xs1 = kWrt s1 wr xl) (h4 : xwr = wr + xl.length) (hS : S1 = kWrt xs1 xwr m) : S1 = kWrt s1 wr (xl ++ m) := by
  subst h5; subst h4; subst hS
  rw [kWrt_app]
