/-- a sum over those of whom c holds -/
def kSm (c : Nat → Bool) (f : Nat → Int32) : Nat → Int32
  | 0 => 0
  | n + 1 => if c n then kSm c f n + f n else kSm c f n
theorem kSm_t {c : Nat → Bool} {f : Nat → Int32} {n : Nat} (h : c n = true) : kSm c f (n + 1) = kSm c f n + f n := if_pos h
theorem kSm_f {c : Nat → Bool} {f : Nat → Int32} {n : Nat} (h : ¬ c n = true) : kSm c f (n + 1) = kSm c f n := if_neg h
theorem kSm_c {c d : Nat → Bool} {f g : Nat → Int32} : ∀ n : Nat, (∀ o : Nat, o < n → c o = d o) → (∀ o : Nat, o < n → c o = true → f o = g o) → kSm c f n = kSm d g n := by
  intro n
  induction n with
  | zero => intro _ _; rfl
  | succ n ih =>
    intro h1 h2
    have e := ih (fun o ho => h1 o (by omega)) (fun o ho => h2 o (by omega))
    by_cases z : c n = true
    · rw [kSm_t z, kSm_t ((h1 n (by omega)).symm.trans z), e, h2 n (by omega) z]
    · rw [kSm_f z, kSm_f (fun y => z ((h1 n (by omega)).trans y)), e]
/-- all but one, and that one -/
def kBut (j : Nat) (c : Nat → Bool) : Nat → Bool := fun o => decide (¬ o = j) && c o
theorem kBut_n {j o : Nat} {c : Nat → Bool} (h : ¬ o = j) : kBut j c o = c o := by
  unfold kBut
  rw [decide_eq_true h, Bool.true_and]
theorem kBut_s {j : Nat} {c : Nat → Bool} : ¬ kBut j c j = true := by
  unfold kBut
  rw [decide_eq_false (fun z => z rfl), Bool.false_and]
  decide
theorem kSm_out {c : Nat → Bool} {f : Nat → Int32} {j : Nat} (hc : c j = true) : ∀ n : Nat, j < n → kSm c f n = kSm (kBut j c) f n + f j := by
  intro n
  induction n with
  | zero => intro h; exact absurd h (Nat.not_lt_zero j)
  | succ n ih =>
    intro h
    by_cases z : j = n
    · subst z
      rw [kSm_t hc, kSm_f kBut_s]
      congr 1
      exact kSm_c j (fun o ho => (kBut_n (by omega)).symm) (fun _ _ _ => rfl)
    · have e := ih (by omega)
      by_cases y : c n = true
      · rw [kSm_t y, kSm_t ((kBut_n (fun q => z q.symm)).trans y), e, Int32.add_assoc, Int32.add_assoc, Int32.add_comm (f j)]
      · rw [kSm_f y, kSm_f (fun q => y ((kBut_n (fun q => z q.symm)).symm.trans q)), e]
theorem kAddI {a b : Int32} (h1 : -2147483648 ≤ a.toInt + b.toInt) (h2 : a.toInt + b.toInt < 2147483648) : (a + b).toInt = a.toInt + b.toInt := by
  rw [Int32.toInt_add]
  exact Int.bmod_eq_of_le (by omega) (by omega)
theorem kSm_b {c : Nat → Bool} {f : Nat → Int32} {M : Nat} (hM : M ≤ 1000) : ∀ n : Nat, n ≤ 20 → (∀ o : Nat, o < n → 0 ≤ (f o).toInt ∧ (f o).toInt ≤ M) → 0 ≤ (kSm c f n).toInt ∧ (kSm c f n).toInt ≤ M * n := by
  intro n
  induction n with
  | zero => intro _ _; exact ⟨by show (0 : Int) ≤ (0 : Int32).toInt; decide, by show (0 : Int32).toInt ≤ _; rw [show (0 : Int32).toInt = 0 by decide]; omega⟩
  | succ n ih =>
    intro hn h
    have e := ih (by omega) (fun o ho => h o (by omega))
    have hf := h n (by omega)
    have hq : (M : Int) * (n + 1 : Nat) = M * n + M := by rw [Int.natCast_add, Int.mul_add]; simp
    have hmn : (M : Int) * n ≤ 20000 := by
      have : M * n ≤ 1000 * 20 := Nat.mul_le_mul hM (by omega)
      have h9 : ((M * n : Nat) : Int) ≤ 20000 := by omega
      rw [Int.natCast_mul] at h9
      exact h9
    by_cases z : c n = true
    · rw [kSm_t z, kAddI (by omega) (by omega), hq]
      omega
    · rw [kSm_f z, hq]
      omega
/-- a run: what each holds, what it has put in, where it is, since when it tells, what was drawn, the hour -/
abbrev kRst : Type := (Nat → Int32) × (Nat → Int32) × (Nat → Int32) × (Nat → Int32) × Int64 × Nat
/-- what a run goes by: how many persons, how many words, whom each knows, the words, who is sent, who is there, the law -/
abbrev kEn : Type := Nat × Nat × (Nat → Int32) × (Nat → Int32) × (Nat → Int32) × (Nat → Int32) × List kTr
/-- there, and in a house -/
def kIh (E : kEn) (S : kRst) (q : Int32) : Nat → Bool := fun o => decide (¬ E.2.2.2.2.2.1 o = 0) && decide (S.2.2.1 o = q)
theorem kIh_t {E : kEn} {S : kRst} {q : Int32} {o : Nat} : kIh E S q o = true ↔ ¬ E.2.2.2.2.2.1 o = 0 ∧ S.2.2.1 o = q := by
  unfold kIh
  rw [Bool.and_eq_true, decide_eq_true_iff, decide_eq_true_iff]
def kNn (E : kEn) (S : kRst) (j : Nat) : Int32 := if S.2.2.1 j = -1 then 0 else kSm (kBut j (kIh E S (S.2.2.1 j))) (fun _ => 1) E.1
def kNh (E : kEn) (S : kRst) (j : Nat) : Int32 := if S.2.2.1 j = -1 then 0 else kSm (kBut j (kIh E S (S.2.2.1 j))) S.1 E.1
def kNse (E : kEn) (S : kRst) (j : Nat) : Int32 := if S.2.2.1 j = -1 then 0 else kSm (kBut j (kIh E S (S.2.2.1 j))) E.2.2.2.2.1 E.1
/-- the words that are past, and the latest of them -/
def kPa (f : Nat → Int32) (h : Int32) : Nat → Bool := fun i => decide (f i ≤ h)
def kLa (f : Nat → Int32) (h : Int32) : Nat → Int32
  | 0 => -1
  | n + 1 => if f n ≤ h then (if kLa f h n < f n then f n else kLa f h n) else kLa f h n
def kUu (E : kEn) (S : kRst) : Int32 := kSm (kPa E.2.2.2.1 (nI S.2.2.2.2.2)) (fun _ => 1) E.2.1
def kDd (E : kEn) (S : kRst) : Int32 := if kLa E.2.2.2.1 (nI S.2.2.2.2.2) E.2.1 = -1 then 0 else nI S.2.2.2.2.2 - kLa E.2.2.2.1 (nI S.2.2.2.2.2) E.2.1
/-- the letters of one -/
def kLe (E : kEn) (S : kRst) (j : Nat) : Nat → Int32 := fun k => if k = 0 then S.1 j else if k = 1 then S.2.1 j else if k = 2 then kNn E S j else if k = 3 then (if kNn E S j = 0 then 0 else kNh E S j / kNn E S j) else if k = 4 then kNse E S j else if k = 5 then kUu E S else if k = 6 then kDd E S else nI S.2.2.2.2.2
/-- what a label is worth to one -/
def kYy (E : kEn) (S : kRst) (lab j : Nat) : Int32 := kWoT (kLe E S j) lab E.2.2.2.2.2.2
def kFr (E : kEn) (j : Nat) : Bool := decide (¬ E.2.2.2.2.2.1 j = 0) && decide (E.2.2.2.2.1 j = 0)
theorem kFr_t {E : kEn} {j : Nat} : kFr E j = true ↔ ¬ E.2.2.2.2.2.1 j = 0 ∧ E.2.2.2.2.1 j = 0 := by
  unfold kFr
  rw [Bool.and_eq_true, decide_eq_true_iff, decide_eq_true_iff]
def kWi (x : Int32) : Int32 := if x < 0 then 0 else if 100 < x then 100 else x
theorem kWi_b (x : Int32) : 0 ≤ (kWi x).toInt ∧ (kWi x).toInt ≤ 100 := by
  unfold kWi
  have h100 : (100 : Int32).toInt = 100 := by decide
  have h0 : (0 : Int32).toInt = 0 := by decide
  split
  · rw [h0]; omega
  · next h1 =>
    split
    · rw [h100]; omega
    · next h2 =>
      have h3 : ¬ x.toInt < (0 : Int32).toInt := fun z => h1 (Int32.lt_iff_toInt_lt.mpr z)
      have h4 : ¬ (100 : Int32).toInt < x.toInt := fun z => h2 (Int32.lt_iff_toInt_lt.mpr z)
      omega
/-- behind the law's more or less -/
def kH1 (E : kEn) (S : kRst) (j : Nat) : Int32 := if kFr E j then kWi (S.1 j + kYy E S 0 j) else S.1 j
def kTe (E : kEn) (S : kRst) (j : Nat) : Bool := kFr E j && decide (50 ≤ kH1 E S j)
theorem kTe_t {E : kEn} {S : kRst} {j : Nat} : kTe E S j = true ↔ kFr E j = true ∧ 50 ≤ kH1 E S j := by
  unfold kTe
  rw [Bool.and_eq_true, decide_eq_true_iff]
def kT1 (E : kEn) (S : kRst) (j : Nat) : Int32 := if kTe E S j then (if S.2.2.2.1 j = -1 then nI S.2.2.2.2.2 else S.2.2.2.1 j) else S.2.2.2.1 j
def kNr (S : kRst) (j k : Nat) : Bool := decide (¬ S.2.2.1 j = -1) && decide (S.2.2.1 j = S.2.2.1 k)
/-- whether one tells another -/
def kTn (E : kEn) (S : kRst) (k : Nat) : Nat → Bool := fun j => kTe E S j && (decide (¬ kIsB (E.2.2.1 j) (nI k) = 0) && !kNr S j k)
theorem kTn_t {E : kEn} {S : kRst} {k j : Nat} : kTn E S k j = true ↔ kTe E S j = true ∧ ¬ kIsB (E.2.2.1 j) (nI k) = 0 ∧ ¬ (¬ S.2.2.1 j = -1 ∧ S.2.2.1 j = S.2.2.1 k) := by
  unfold kTn kNr
  rw [Bool.and_eq_true, Bool.and_eq_true, decide_eq_true_iff, Bool.not_eq_true', Bool.and_eq_false_iff, decide_eq_false_iff_not, decide_eq_false_iff_not]
  constructor
  · intro h
    exact ⟨h.1, h.2.1, fun z => h.2.2.elim (fun y => y z.1) (fun y => y z.2)⟩
  · intro h
    refine ⟨h.1, h.2.1, ?_⟩
    by_cases z : S.2.2.1 j = -1
    · exact Or.inl (fun y => y z)
    · exact Or.inr (fun y => h.2.2 ⟨z, y⟩)
def kHe (E : kEn) (S : kRst) (k n : Nat) : Int32 := kSm (kTn E S k) (fun j => kYy E S 2 j) n
def kH2 (E : kEn) (S : kRst) (j : Nat) : Int32 := if kFr E j then kWi (kH1 E S j + kHe E S j E.1) else kH1 E S j
def kDr (x : Int64) : Int64 := x * 6364136223846793005 + 1442695040888963407
def kRv (x : Int64) : Int64 := (x.toUInt64 >>> ((33 : Int32).toInt64.toUInt64 &&& Int64.toUInt64 63)).toInt64
def kRm (x : Int64) : Int64 := kRv x - kRv x / 100 * 100
def kGo (x : Int64) (g : Int32) : Bool := decide (lg_cmp (kRm x) (Int32.toInt64 g) < 0)
def kMay (E : kEn) (S : kRst) (j : Nat) : Bool := kFr E j && decide (¬ S.2.2.1 j = -1)
theorem kMay_t {E : kEn} {S : kRst} {j : Nat} : kMay E S j = true ↔ kFr E j = true ∧ ¬ S.2.2.1 j = -1 := by
  unfold kMay
  rw [Bool.and_eq_true, decide_eq_true_iff]
def kGh (E : kEn) (S : kRst) : Nat → Int64 × (Nat → Int32)
  | 0 => (S.2.2.2.2.1, S.2.2.1)
  | n + 1 => if kMay E S n then (kDr (kGh E S n).1, if kGo (kDr (kGh E S n).1) (kYy E S 1 n) then upd (kGh E S n).2 n (-1) else (kGh E S n).2) else kGh E S n
theorem kGh_hi {E : kEn} {S : kRst} : ∀ n q : Nat, n ≤ q → (kGh E S n).2 q = S.2.2.1 q := by
  intro n
  induction n with
  | zero => intro q _; rfl
  | succ n ih =>
    intro q hq
    have e := ih q (by omega)
    unfold kGh
    split
    · show (if kGo (kDr (kGh E S n).1) (kYy E S 1 n) then upd (kGh E S n).2 n (-1) else (kGh E S n).2) q = _
      split
      · rw [pk_un (by omega)]; exact e
      · exact e
    · exact e
theorem kGh_or {E : kEn} {S : kRst} : ∀ n q : Nat, (kGh E S n).2 q = S.2.2.1 q ∨ (kGh E S n).2 q = -1 := by
  intro n
  induction n with
  | zero => intro q; exact Or.inl rfl
  | succ n ih =>
    intro q
    have e := ih q
    unfold kGh
    split
    · show (if kGo (kDr (kGh E S n).1) (kYy E S 1 n) then upd (kGh E S n).2 n (-1) else (kGh E S n).2) q = _ ∨ (if kGo (kDr (kGh E S n).1) (kYy E S 1 n) then upd (kGh E S n).2 n (-1) else (kGh E S n).2) q = _
      split
      · by_cases z : q = n
        · exact Or.inr (by rw [z, pk_us])
        · rw [pk_un z]; exact e
      · exact e
    · exact e
/-- one hour -/
def kStp (E : kEn) (S : kRst) : kRst := (kH2 E S, S.2.1, (kGh E S E.1).2, kT1 E S, (kGh E S E.1).1, S.2.2.2.2.2 + 1)
def kIt (E : kEn) : Nat → kRst → kRst
  | 0, S => S
  | n + 1, S => kStp E (kIt E n S)
theorem kIt_hr (E : kEn) (S : kRst) : ∀ n : Nat, (kIt E n S).2.2.2.2.2 = S.2.2.2.2.2 + n := by
  intro n
  induction n with
  | zero => rfl
  | succ n ih => show (kIt E n S).2.2.2.2.2 + 1 = _; rw [ih]; omega
/-- within bounds -/
def kOk (ks : Nat) (S : kRst) : Prop := ∀ j : Nat, j < ks → (0 ≤ (S.1 j).toInt ∧ (S.1 j).toInt ≤ 100) ∧ (0 ≤ (S.2.1 j).toInt ∧ (S.2.1 j).toInt ≤ 99) ∧ (S.2.2.1 j = -1 ∨ ∃ v : Nat, v < 4 ∧ S.2.2.1 j = nI v)
theorem kOk_stp {E : kEn} {S : kRst} {ks : Nat} (h : kOk ks S) : kOk ks (kStp E S) := by
  intro j hj
  obtain ⟨h1, h2, h3⟩ := h j hj
  refine ⟨?_, h2, ?_⟩
  · show 0 ≤ (kH2 E S j).toInt ∧ (kH2 E S j).toInt ≤ 100
    unfold kH2
    split
    · exact kWi_b _
    · unfold kH1
      split
      · exact kWi_b _
      · exact h1
  · show (kGh E S E.1).2 j = -1 ∨ ∃ v : Nat, v < 4 ∧ (kGh E S E.1).2 j = nI v
    rcases kGh_or (E := E) (S := S) E.1 j with e | e
    · rw [e]; exact h3
    · exact Or.inl e
theorem kOk_it {E : kEn} {S : kRst} {ks : Nat} (h : kOk ks S) : ∀ n : Nat, kOk ks (kIt E n S) := by
  intro n
  induction n with
  | zero => exact h
  | succ n ih => exact kOk_stp ih
/-- arrays that hold a run -/
def kRp (ks : Nat) (S : kRst) (h p l t : Nat → Int32) : Prop := ∀ j : Nat, j < ks → h j = S.1 j ∧ p j = S.2.1 j ∧ l j = S.2.2.1 j ∧ t j = S.2.2.2.1 j
theorem kIsB_01 (a b : Int32) : kIsB a b = 0 ∨ kIsB a b = 1 := by unfold kIsB; split; exact Or.inl rfl; exact Or.inr rfl
theorem kDivB {a b : Int32} {M : Int} (ha : 0 ≤ a.toInt ∧ a.toInt ≤ M) (hM : M ≤ 1000000) : -1000000 ≤ (a / b).toInt ∧ (a / b).toInt ≤ 1000000 := by
  have hd : (a.toInt.tdiv b.toInt).natAbs ≤ a.toInt.natAbs := by rw [Int.natAbs_tdiv]; exact Nat.div_le_self _ _
  have h : (a / b).toInt = a.toInt.tdiv b.toInt := by
    rw [Int32.toInt_div]
    exact Int.bmod_eq_of_le (by omega) (by omega)
  rw [h]
  omega
theorem kSm_ge {c : Nat → Bool} {f : Nat → Int32} {n : Nat} (hn : n ≤ 20) (h : ∀ o : Nat, o < n → 0 ≤ (f o).toInt ∧ (f o).toInt ≤ 1000) : kBd (kSm c f n) := by
  have e := kSm_b (c := c) (M := 1000) (Nat.le_refl _) n hn h
  unfold kBd
  omega
theorem kBd_n {v : Nat} (h : v ≤ 1000000) : kBd (nI v) := by
  unfold kBd
  rw [nI_toInt (by omega)]
  omega
theorem kLa_b {f : Nat → Int32} {h : Int32} : ∀ n : Nat, (∀ i : Nat, i < n → 0 ≤ (f i).toInt ∧ (f i).toInt ≤ 47) → -1 ≤ (kLa f h n).toInt ∧ (kLa f h n).toInt ≤ 47 := by
  intro n
  induction n with
  | zero => intro _; exact (by decide : -1 ≤ (-1 : Int32).toInt ∧ (-1 : Int32).toInt ≤ 47)
  | succ n ih =>
    intro hf
    have e := ih (fun i hi => hf i (by omega))
    have e2 := hf n (by omega)
    unfold kLa
    split
    · split
      · omega
      · exact e
    · exact e
/-- a run's letters are small -/
theorem kLe_b {E : kEn} {S : kRst} {j : Nat} (hk : E.1 ≤ 10) (hw : E.2.1 ≤ 4) (hr : S.2.2.2.2.2 ≤ 48) (ho : kOk E.1 S) (hj : j < E.1) (hs : ∀ o : Nat, E.2.2.2.2.1 o = 0 ∨ E.2.2.2.2.1 o = 1) (hf : ∀ i : Nat, i < E.2.1 → 0 ≤ (E.2.2.2.1 i).toInt ∧ (E.2.2.2.1 i).toInt ≤ 47) : ∀ k : Nat, kBd (kLe E S j k) := by
  intro k
  obtain ⟨h1, h2, _⟩ := ho j hj
  have h11 : (1 : Int32).toInt = 1 := by decide
  have h10 : (0 : Int32).toInt = 0 := by decide
  have hh : ∀ c : Nat → Bool, 0 ≤ (kSm c S.1 E.1).toInt ∧ (kSm c S.1 E.1).toInt ≤ (100 : Nat) * E.1 := fun c => kSm_b (M := 100) (by decide) E.1 (by omega) (fun o ho2 => by have := (ho o ho2).1; omega)
  unfold kLe
  split
  · unfold kBd; omega
  · split
    · unfold kBd; omega
    · split
      · unfold kNn
        split
        · exact kBd0
        · exact kSm_ge (by omega) (fun o _ => by rw [h11]; omega)
      · split
        · split
          · exact kBd0
          · unfold kNh
            split
            · exact kDivB (M := 0) (by rw [h10]; omega) (by omega)
            · have := hh (kBut j (kIh E S (S.2.2.1 j)))
              exact kDivB (M := 1000) (by omega) (by omega)
        · split
          · unfold kNse
            split
            · exact kBd0
            · exact kSm_ge (by omega) (fun o _ => by rcases hs o with z | z <;> (rw [z]; omega))
          · split
            · unfold kUu
              exact kSm_ge (by omega) (fun o _ => by rw [h11]; omega)
            · split
              · unfold kDd
                split
                · exact kBd0
                · have e := kLa_b (h := nI S.2.2.2.2.2) E.2.1 hf
                  have e2 := nI_toInt (n := S.2.2.2.2.2) (by omega)
                  unfold kBd
                  have e3 : (nI S.2.2.2.2.2 - kLa E.2.2.2.1 (nI S.2.2.2.2.2) E.2.1).toInt = (nI S.2.2.2.2.2).toInt - (kLa E.2.2.2.1 (nI S.2.2.2.2.2) E.2.1).toInt := by
                    rw [Int32.toInt_sub]
                    exact Int.bmod_eq_of_le (by omega) (by omega)
                  rw [e3]
                  omega
              · exact kBd_n (by omega)
theorem kFiU {f f1 : Nat → Int32} {i : Nat} {v : Int32} (hi : i < 2 ^ 31) (e : f1 = upd f (Int32.toNatClampNeg (nI i)) v) (H : ∀ j : Nat, j < i → f j = v) : ∀ j : Nat, j < i + 1 → f1 j = v := fun j hj => by
  rw [e, nI_clamp hi]
  by_cases z : j = i
  · rw [z, pk_us]
  · rw [pk_un z]; exact H j (by omega)
/-- one place more of a row is as told -/
theorem kRoU {f f1 a b : Nat → Int32} {i n : Nat} {v : Int32} (hi : i < 2 ^ 31) (e : f1 = upd f (Int32.toNatClampNeg (nI i)) v) (hv : v = a i) (H : ∀ j : Nat, j < n → f j = if j < i then a j else b j) : ∀ j : Nat, j < n → f1 j = if j < i + 1 then a j else b j := fun j hj => by
  rw [e, nI_clamp hi]
  by_cases z : j = i
  · rw [z, pk_us, if_pos (Nat.lt_succ_self i)]; exact hv
  · rw [pk_un z, H j hj]
    by_cases y : j < i
    · rw [if_pos y, if_pos (by omega)]
    · rw [if_neg y, if_neg (by omega)]
theorem kRoS {f a b : Nat → Int32} {i n : Nat} (hv : a i = b i) (H : ∀ j : Nat, j < n → f j = if j < i then a j else b j) : ∀ j : Nat, j < n → f j = if j < i + 1 then a j else b j := fun j hj => by
  rw [H j hj]
  by_cases z : j = i
  · rw [z, if_neg (Nat.lt_irrefl i), if_pos (Nat.lt_succ_self i), hv]
  · by_cases y : j < i
    · rw [if_pos y, if_pos (by omega)]
    · rw [if_neg y, if_neg (by omega)]
theorem kRo0 {f a b : Nat → Int32} {n : Nat} (H : ∀ j : Nat, j < n → f j = b j) : ∀ j : Nat, j < n → f j = if j < 0 then a j else b j := fun j hj => by rw [if_neg (Nat.not_lt_zero j)]; exact H j hj
theorem kRoE {f a b : Nat → Int32} {i n : Nat} (hi : n ≤ i) (H : ∀ j : Nat, j < n → f j = if j < i then a j else b j) : ∀ j : Nat, j < n → f j = a j := fun j hj => by rw [H j hj, if_pos (by omega)]
theorem kRoI {f a b : Nat → Int32} {i n : Nat} (hi : i < n) (H : ∀ j : Nat, j < n → f j = if j < i then a j else b j) : f i = b i := by rw [H i hi, if_neg (Nat.lt_irrefl i)]
/-- the tallies of the houses -/
theorem kTaU {f f1 : Nat → Int32} {c : Nat → Nat → Bool} {g : Nat → Int32} {v i : Nat} {y x w : Int32} (hv : v < 4) (e : f1 = upd f (Int32.toNatClampNeg (nI v)) y) (ey : y = x + w) (ex : x = f (Int32.toNatClampNeg (nI v))) (hw : w = g i) (hc : ∀ q : Nat, q < 4 → (c q i = true ↔ q = v)) (H : ∀ q : Nat, q < 4 → f q = kSm (c q) g i) : ∀ q : Nat, q < 4 → f1 q = kSm (c q) g (i + 1) := fun q hq => by
  rw [nI_clamp (by omega)] at e ex
  rw [e]
  by_cases z : q = v
  · subst z
    rw [pk_us, kSm_t ((hc q hq).mpr rfl), ey, ex, H q hq, hw]
  · rw [pk_un z, kSm_f (fun t => z ((hc q hq).mp t))]
    exact H q hq
theorem kTaS {f : Nat → Int32} {c : Nat → Nat → Bool} {g : Nat → Int32} {i : Nat} (hc : ∀ q : Nat, q < 4 → ¬ c q i = true) (H : ∀ q : Nat, q < 4 → f q = kSm (c q) g i) : ∀ q : Nat, q < 4 → f q = kSm (c q) g (i + 1) := fun q hq => by
  rw [kSm_f (hc q hq)]
  exact H q hq
theorem kIh_v {E : kEn} {S : kRst} {i v : Nat} (hB : ¬ E.2.2.2.2.2.1 i = 0) (hl : S.2.2.1 i = nI v) (hv : v < 4) : ∀ q : Nat, q < 4 → (kIh E S (nI q) i = true ↔ q = v) := fun q hq => by
  rw [kIh_t, hl]
  constructor
  · intro h; exact (keq (a := v) (b := q) (by omega) (by omega) h.2).symm
  · intro h; exact ⟨hB, by rw [h]⟩
theorem kIh_b {E : kEn} {S : kRst} {i : Nat} (hB : E.2.2.2.2.2.1 i = 0) : ∀ q : Nat, q < 4 → ¬ kIh E S (nI q) i = true := fun q _ h => (kIh_t.mp h).1 hB
theorem kIh_m {E : kEn} {S : kRst} {i : Nat} (hl : S.2.2.1 i = -1) : ∀ q : Nat, q < 4 → ¬ kIh E S (nI q) i = true := fun q hq h => by
  have h2 := (kIh_t.mp h).2
  rw [hl] at h2
  have h3 := nI_toInt (n := q) (by omega)
  rw [← h2] at h3
  have h4 : ((-1 : Int32)).toInt = -1 := by decide
  rw [h4] at h3
  omega
theorem kIn03 {v : Nat} (h : v < 4) : ¬ kIn (nI v) 0 3 = 0 := by
  rcases (show v = 0 ∨ v = 1 ∨ v = 2 ∨ v = 3 by omega) with z | z | z | z <;> (rw [z]; decide)
theorem kInm1 : kIn (-1) 0 3 = 0 := by decide
/-- the tallies as one fact -/
def kTal (E : kEn) (S : kRst) (a b c : Nat → Int32) (n : Nat) : Prop := (∀ q : Nat, q < 4 → a q = kSm (kIh E S (nI q)) (fun _ => 1) n) ∧ (∀ q : Nat, q < 4 → b q = kSm (kIh E S (nI q)) S.1 n) ∧ (∀ q : Nat, q < 4 → c q = kSm (kIh E S (nI q)) E.2.2.2.2.1 n)
theorem kOthers {E : kEn} {S : kRst} {j v : Nat} {f : Nat → Int32} (hj : j < E.1) (hB : ¬ E.2.2.2.2.2.1 j = 0) (hl : S.2.2.1 j = nI v) : kSm (kIh E S (nI v)) f E.1 - f j = kSm (kBut j (kIh E S (S.2.2.1 j))) f E.1 := by
  rw [hl, kSm_out (c := kIh E S (nI v)) (f := f) (kIh_t.mpr ⟨hB, hl⟩) E.1 hj]
  exact Int32.add_sub_cancel _ _
theorem kNeM4 {v : Nat} (h : v < 4) : ¬ (nI v) = -1 := fun z => by
  have h3 := nI_toInt (n := v) (by omega)
  rw [z] at h3
  have h4 : ((-1 : Int32)).toInt = -1 := by decide
  rw [h4] at h3
  omega
theorem kPos0 {x : Int32} (h : 0 ≤ x.toInt) (c : x ≤ 0) : x = 0 := Int32.toInt_inj.mp (by
  have h2 := Int32.le_iff_toInt_le.mp c
  have h3 : (0 : Int32).toInt = 0 := by decide
  rw [h3] at h2 ⊢
  omega)
theorem kNn_0 {E : kEn} {S : kRst} {j : Nat} (hk : E.1 ≤ 10) : 0 ≤ (kNn E S j).toInt := by
  unfold kNn
  split
  · decide
  · exact (kSm_b (M := 1) (by decide) E.1 (by omega) (fun o _ => ⟨by decide, by decide⟩)).1
/-- whom nobody bars from changing: moved is there and not sent -/
def kMv (E : kEn) (ks : Nat) (mo : Int32) : Prop := ∀ j : Nat, j < ks → (¬ kIsB mo (nI j) = 0 ↔ kFr E j = true)
/-- what the law is worth to each that may change -/
def kWg (E : kEn) (S : kRst) (n : Nat) (y x g : Nat → Int32) : Prop := ∀ j : Nat, j < n → kFr E j = true → y j = kYy E S 0 j ∧ (¬ E.2.2.1 j = 0 → x j = kYy E S 2 j) ∧ (¬ S.2.2.1 j = -1 → g j = kYy E S 1 j)
theorem kIsB_z (b : Int32) : kIsB 0 b = 0 := by
  unfold kIsB
  rw [if_pos]
  apply Int32.toBitVec_inj.mp
  show BitVec.sshiftRight 0#32 _ &&& 1#32 = 0#32
  rw [BitVec.zero_sshiftRight, BitVec.zero_and]
theorem kIn_01 (a b c : Int32) : kIn a b c = 0 ∨ kIn a b c = 1 := by
  unfold kIn
  split
  · exact Or.inl rfl
  · split
    · exact Or.inl rfl
    · exact Or.inr rfl
theorem kIsB_ne {r a b : Int32} (h : r = kIsB a b) (c : ¬ r = 0) : kIsB a b = 1 := by
  rcases kIsB_01 a b with z | z
  · exact absurd (h.trans z) c
  · exact z
theorem kNn_v {E : kEn} {S : kRst} {j v : Nat} {x y : Int32} (hj : j < E.1) (hB : ¬ E.2.2.2.2.2.1 j = 0) (hl : S.2.2.1 j = nI v) (hv : v < 4) (ex : x = y - 1) (hy : y = kSm (kIh E S (nI v)) (fun _ => 1) E.1) : x = kNn E S j := by
  unfold kNn
  rw [if_neg (by rw [hl]; exact kNeM4 hv), ← kOthers (f := fun _ => 1) hj hB hl, ex, hy]
theorem kNh_v {E : kEn} {S : kRst} {j v : Nat} {x y w : Int32} (hj : j < E.1) (hB : ¬ E.2.2.2.2.2.1 j = 0) (hl : S.2.2.1 j = nI v) (hv : v < 4) (ex : x = y - w) (hw : w = S.1 j) (hy : y = kSm (kIh E S (nI v)) S.1 E.1) : x = kNh E S j := by
  unfold kNh
  rw [if_neg (by rw [hl]; exact kNeM4 hv), ← kOthers (f := S.1) hj hB hl, ex, hy, hw]
theorem kNse_v {E : kEn} {S : kRst} {j v : Nat} {x y w : Int32} (hj : j < E.1) (hB : ¬ E.2.2.2.2.2.1 j = 0) (hl : S.2.2.1 j = nI v) (hv : v < 4) (ex : x = y - w) (hw : w = E.2.2.2.2.1 j) (hy : y = kSm (kIh E S (nI v)) E.2.2.2.2.1 E.1) : x = kNse E S j := by
  unfold kNse
  rw [if_neg (by rw [hl]; exact kNeM4 hv), ← kOthers (f := E.2.2.2.2.1) hj hB hl, ex, hy, hw]
theorem kLe_2 {E : kEn} {S : kRst} {j : Nat} {x : Int32} (h : x = kNn E S j) : x = kLe E S j 2 := h
theorem kLe_3z {E : kEn} {S : kRst} {j : Nat} {x : Int32} (hk : E.1 ≤ 10) (h : x = kNn E S j) (c : x ≤ 0) : (0 : Int32) = kLe E S j 3 := by
  have h2 : kNn E S j = 0 := by rw [← h]; exact kPos0 (by rw [h]; exact kNn_0 hk) c
  show (0 : Int32) = if kNn E S j = 0 then 0 else kNh E S j / kNn E S j
  rw [if_pos h2]
theorem kLe_3p {E : kEn} {S : kRst} {j : Nat} {x y d : Int32} (h : x = kNn E S j) (hh : y = kNh E S j) (c : ¬ x ≤ 0) (e : d = y / x) : d = kLe E S j 3 := by
  have h2 : ¬ kNn E S j = 0 := fun z => c (by rw [h, z]; decide)
  show d = if kNn E S j = 0 then 0 else kNh E S j / kNn E S j
  rw [if_neg h2, e, h, hh]
theorem kNn_m {E : kEn} {S : kRst} {j : Nat} (hl : S.2.2.1 j = -1) : (0 : Int32) = kNn E S j := (if_pos hl).symm
theorem kNse_m {E : kEn} {S : kRst} {j : Nat} (hl : S.2.2.1 j = -1) : (0 : Int32) = kNse E S j := (if_pos hl).symm
theorem kLe5 {E : kEn} {S : kRst} {j : Nat} {l f1 f2 f3 f4 f5 : Nat → Int32} {a b c d g : Int32} (h1 : f1 = upd l 0 a) (h2 : f2 = upd f1 1 b) (h3 : f3 = upd f2 2 c) (h4 : f4 = upd f3 3 d) (h5 : f5 = upd f4 4 g) (va : a = S.1 j) (vb : b = S.2.1 j) (vc : c = kNn E S j) (vd : d = kLe E S j 3) (vg : g = kNse E S j) : (∀ k : Nat, k < 5 → f5 k = kLe E S j k) ∧ (∀ k : Nat, 5 ≤ k → f5 k = l k) := by
  constructor
  · intro k hk
    rcases (show k = 0 ∨ k = 1 ∨ k = 2 ∨ k = 3 ∨ k = 4 by omega) with z | z | z | z | z
    · rw [z, h5, pk_un (by omega), h4, pk_un (by omega), h3, pk_un (by omega), h2, pk_un (by omega), h1, pk_us]; exact va
    · rw [z, h5, pk_un (by omega), h4, pk_un (by omega), h3, pk_un (by omega), h2, pk_us]; exact vb
    · rw [z, h5, pk_un (by omega), h4, pk_un (by omega), h3, pk_us]; exact vc
    · rw [z, h5, pk_un (by omega), h4, pk_us]; exact vd
    · rw [z, h5, pk_us]; exact vg
  · intro k hk
    rw [h5, pk_un (by omega), h4, pk_un (by omega), h3, pk_un (by omega), h2, pk_un (by omega), h1, pk_un (by omega)]
/-- the letters of the hour -/
def kHL (E : kEn) (S : kRst) (l : Nat → Int32) : Prop := l 5 = kUu E S ∧ l 6 = kDd E S ∧ l 7 = nI S.2.2.2.2.2
theorem kHL3 {E : kEn} {S : kRst} {l f1 f2 f3 : Nat → Int32} {a b c : Int32} (h1 : f1 = upd l 5 a) (h2 : f2 = upd f1 6 b) (h3 : f3 = upd f2 7 c) (va : a = kUu E S) (vb : b = kDd E S) (vc : c = nI S.2.2.2.2.2) : kHL E S f3 := by
  refine ⟨?_, ?_, ?_⟩
  · rw [h3, pk_un (by omega), h2, pk_un (by omega), h1, pk_us]; exact va
  · rw [h3, pk_un (by omega), h2, pk_us]; exact vb
  · rw [h3, pk_us]; exact vc
theorem kHL_k {E : kEn} {S : kRst} {l f : Nat → Int32} (h : kHL E S l) (hr : ∀ k : Nat, 5 ≤ k → f k = l k) : kHL E S f := ⟨(hr 5 (by omega)).trans h.1, (hr 6 (by omega)).trans h.2.1, (hr 7 (by omega)).trans h.2.2⟩
theorem kLe8 {E : kEn} {S : kRst} {j : Nat} {f l : Nat → Int32} (h5 : ∀ k : Nat, k < 5 → f k = kLe E S j k) (hr : ∀ k : Nat, 5 ≤ k → f k = l k) (h : kHL E S l) : ∀ k : Nat, k < 8 → f k = kLe E S j k := fun k hk => by
  by_cases z : k < 5
  · exact h5 k z
  · rw [hr k (by omega)]
    rcases (show k = 5 ∨ k = 6 ∨ k = 7 by omega) with y | y | y
    · rw [y]; exact h.1
    · rw [y]; exact h.2.1
    · rw [y]; exact h.2.2
theorem kWgU {E : kEn} {S : kRst} {i : Nat} {y x g y1 x1 g1 : Nat → Int32} {a b c : Int32} (hi : i < 2 ^ 31) (ey : y1 = upd y (Int32.toNatClampNeg (nI i)) a) (ex : x1 = upd x (Int32.toNatClampNeg (nI i)) b) (eg : g1 = upd g (Int32.toNatClampNeg (nI i)) c) (ha : a = kYy E S 0 i) (hb : ¬ E.2.2.1 i = 0 → b = kYy E S 2 i) (hc : ¬ S.2.2.1 i = -1 → c = kYy E S 1 i) (H : kWg E S i y x g) : kWg E S (i + 1) y1 x1 g1 := fun j hj hf => by
  rw [nI_clamp hi] at ey ex eg
  rw [ey, ex, eg]
  by_cases z : j = i
  · rw [z, pk_us, pk_us, pk_us]; exact ⟨ha, hb, hc⟩
  · rw [pk_un z, pk_un z, pk_un z]; exact H j (by omega) hf
theorem kWgS {E : kEn} {S : kRst} {i : Nat} {y x g : Nat → Int32} (hf : ¬ kFr E i = true) (H : kWg E S i y x g) : kWg E S (i + 1) y x g := fun j hj hf2 => by
  by_cases z : j = i
  · rw [z] at hf2; exact absurd hf2 hf
  · exact H j (by omega) hf2
theorem kYy_of {E : kEn} {S : kRst} {j lab : Nat} {f : Nat → Int32} {r : Int32} {N : Nat} (h : ∀ k : Nat, k < 8 → f k = kLe E S j k) (hg : ∀ z ∈ E.2.2.2.2.2.2, kGdC N 8 z) (hr : r = kWoT f lab E.2.2.2.2.2.2) : r = kYy E S lab j := by
  unfold kYy
  rw [hr]
  exact kWoT_c h _ hg
theorem kH1_p {E : kEn} {S : kRst} {i : Nat} {r x a b : Int32} (hf : kFr E i = true) (hr : r = (if x < 0 then 0 else if 100 < x then 100 else x)) (ex : x = a + b) (ha : a = S.1 i) (hb : b = kYy E S 0 i) : r = kH1 E S i := by
  unfold kH1
  rw [if_pos hf, hr, ex, ha, hb]
  rfl
theorem kH1_n {E : kEn} {S : kRst} {i : Nat} (hf : ¬ kFr E i = true) : kH1 E S i = S.1 i := if_neg hf
theorem kH2_p {E : kEn} {S : kRst} {i : Nat} {r x a b : Int32} (hf : kFr E i = true) (hr : r = (if x < 0 then 0 else if 100 < x then 100 else x)) (ex : x = a + b) (ha : a = kH1 E S i) (hb : b = kHe E S i E.1) : r = kH2 E S i := by
  unfold kH2
  rw [if_pos hf, hr, ex, ha, hb]
  rfl
theorem kH2_n {E : kEn} {S : kRst} {i : Nat} (hf : ¬ kFr E i = true) : kH2 E S i = kH1 E S i := if_neg hf
/-- what one tells to those it knows -/
def kTk1 (fk : Nat → Int32) (S : kRst) (j : Nat) (e : Nat → Int32) (x : Int32) : Nat → Int32 := fun k => if ¬ kIsB (fk j) (nI k) = 0 ∧ ¬ (¬ S.2.2.1 j = -1 ∧ S.2.2.1 j = S.2.2.1 k) then e k + x else e k
theorem kTk1_0 {fk : Nat → Int32} {S : kRst} {j k : Nat} {e : Nat → Int32} {x : Int32} (h : kIsB (fk j) (nI k) = 0) : kTk1 fk S j e x k = e k := if_neg (fun z => z.1 h)
theorem kTk1_n {fk : Nat → Int32} {S : kRst} {j k : Nat} {e : Nat → Int32} {x : Int32} (h1 : ¬ S.2.2.1 j = -1) (h2 : S.2.2.1 j = S.2.2.1 k) : kTk1 fk S j e x k = e k := if_neg (fun z => z.2 ⟨h1, h2⟩)
theorem kTk1_t {fk : Nat → Int32} {S : kRst} {j k : Nat} {e : Nat → Int32} {x y a b : Int32} (h : ¬ kIsB (fk j) (nI k) = 0) (h2 : ¬ (¬ S.2.2.1 j = -1 ∧ S.2.2.1 j = S.2.2.1 k)) (ey : y = a + b) (ha : a = e k) (hb : b = x) : y = kTk1 fk S j e x k := by
  unfold kTk1
  rw [if_pos ⟨h, h2⟩, ey, ha, hb]
/-- the row of what each hears, one teller more -/
theorem kHeU {E : kEn} {S : kRst} {i : Nat} {f f1 : Nat → Int32} {x : Int32} (ht : kTe E S i = true) (H : ∀ k : Nat, k < E.1 → f k = kHe E S k i) (h1 : ∀ k : Nat, k < E.1 → f1 k = kTk1 E.2.2.1 S i f x k) (hx : ¬ E.2.2.1 i = 0 → x = kYy E S 2 i) : ∀ k : Nat, k < E.1 → f1 k = kHe E S k (i + 1) := fun k hk => by
  rw [h1 k hk]
  unfold kTk1
  by_cases z : ¬ kIsB (E.2.2.1 i) (nI k) = 0 ∧ ¬ (¬ S.2.2.1 i = -1 ∧ S.2.2.1 i = S.2.2.1 k)
  · have hz : ¬ E.2.2.1 i = 0 := fun y => z.1 (by rw [y]; exact kIsB_z _)
    rw [if_pos z, H k hk, hx hz]
    exact (kSm_t (kTn_t.mpr ⟨ht, z⟩)).symm
  · rw [if_neg z, H k hk]
    exact (kSm_f (fun y => z (kTn_t.mp y).2)).symm
theorem kHeS {E : kEn} {S : kRst} {i : Nat} {f : Nat → Int32} (ht : ¬ kTe E S i = true) (H : ∀ k : Nat, k < E.1 → f k = kHe E S k i) : ∀ k : Nat, k < E.1 → f k = kHe E S k (i + 1) := fun k hk => by
  rw [H k hk]
  exact (kSm_f (fun y => ht (kTn_t.mp y).1)).symm
theorem kT1_n {E : kEn} {S : kRst} {i : Nat} (ht : ¬ kTe E S i = true) : kT1 E S i = S.2.2.2.1 i := if_neg ht
theorem kT1_s {E : kEn} {S : kRst} {i : Nat} (ht : kTe E S i = true) (h : ¬ S.2.2.2.1 i = -1) : kT1 E S i = S.2.2.2.1 i := by
  unfold kT1
  rw [if_pos ht, if_neg h]
theorem kT1_h {E : kEn} {S : kRst} {i : Nat} {v : Int32} (ht : kTe E S i = true) (h : S.2.2.2.1 i = -1) (hv : v = nI S.2.2.2.2.2) : v = kT1 E S i := by
  unfold kT1
  rw [if_pos ht, if_pos h, hv]
theorem kGhS {E : kEn} {S : kRst} {i : Nat} (h : ¬ kMay E S i = true) : kGh E S (i + 1) = kGh E S i := if_neg h
theorem kGhT {E : kEn} {S : kRst} {i : Nat} (h : kMay E S i = true) : kGh E S (i + 1) = (kDr (kGh E S i).1, if kGo (kDr (kGh E S i).1) (kYy E S 1 i) then upd (kGh E S i).2 i (-1) else (kGh E S i).2) := if_pos h
/-- one draw -/
theorem kGoX {x v q a w m : Int64} {g r : Int32} (em : m = x * 6364136223846793005) (ea : a = m + 1442695040888963407) (ev : v = (a.toUInt64 >>> ((33 : Int32).toInt64.toUInt64 &&& Int64.toUInt64 63)).toInt64) (eq : q = v - v / 100 * 100) (ew : w = Int32.toInt64 g) (er : r = lg_cmp q w) : a = kDr x ∧ (kGo (kDr x) g = true ↔ r < 0) := by
  have h1 : a = kDr x := by rw [ea, em]; rfl
  refine ⟨h1, ?_⟩
  unfold kGo
  rw [decide_eq_true_iff, ← h1]
  have h2 : q = kRm a := by rw [eq, ev]; rfl
  rw [← h2, ← ew, ← er]
theorem kGhU {f f1 g : Nat → Int32} {i n : Nat} (hi : i < 2 ^ 31) (e : f1 = upd f (Int32.toNatClampNeg (nI i)) (-1)) (H : ∀ j : Nat, j < n → f j = g j) : ∀ j : Nat, j < n → f1 j = upd g i (-1) j := fun j hj => by
  rw [e, nI_clamp hi]
  by_cases z : j = i
  · rw [z, pk_us, pk_us]
  · rw [pk_un z, pk_un z]; exact H j hj
theorem nI_add1 (n : Nat) : nI n + 1 = nI (n + 1) := nI_add n 1
/-- everybody, and those who are there -/
def kEvb (ks : Nat) : Int32 := ((1 : Int32) <<< (nI ks &&& 31)) - 1
def kPrs (ks : Nat) (ab : Int32) : Int32 := kEvb ks &&& (ab ^^^ (-1))
abbrev kE0 (ks kw : Nat) (g3 g4 : Nat → Int32) (sv : Nat) (pr : Int32) (t : List kTr) : kEn := (ks, kw, g3, g4, (fun j => kIsB (nI sv) (nI j)), (fun j => kIsB pr (nI j)), t)
abbrev kS0 (g0 g1 g2 : Nat → Int32) (x : Int64) : kRst := (g0, g1, g2, (fun _ => -1), x, 0)
theorem kSh1 (x : BitVec 32) (n : Nat) (hb : x.getLsbD n = true) (h : n < 32) : (x.sshiftRight n) &&& 1#32 = 1#32 := by
  ext i hi
  simp only [BitVec.getElem_and, BitVec.getElem_sshiftRight]
  by_cases h0 : i = 0
  · subst h0
    rw [dif_pos (by omega)]
    have e1 : x[n + 0] = true := by
      show x[n] = true
      rw [← BitVec.getLsbD_eq_getElem]; exact hb
    rw [e1]; rfl
  · have h2 : (1#32)[i] = false := by
      rw [← BitVec.getLsbD_eq_getElem]
      have : ∀ j : Fin 32, j.val ≠ 0 → (1#32).getLsbD j.val = false := by decide
      exact this ⟨i, hi⟩ h0
    rw [h2, Bool.and_false]
theorem kSh0 (x : BitVec 32) (n : Nat) (hb : x.getLsbD n = false) (h : n < 32) : (x.sshiftRight n) &&& 1#32 = 0#32 := by
  ext i hi
  simp only [BitVec.getElem_and, BitVec.getElem_sshiftRight, BitVec.getElem_zero]
  by_cases h0 : i = 0
  · subst h0
    rw [dif_pos (by omega)]
    have e1 : x[n + 0] = false := by
      show x[n] = false
      rw [← BitVec.getLsbD_eq_getElem]; exact hb
    rw [e1]; rfl
  · have h2 : (1#32)[i] = false := by
      rw [← BitVec.getLsbD_eq_getElem]
      have : ∀ j : Fin 32, j.val ≠ 0 → (1#32).getLsbD j.val = false := by decide
      exact this ⟨i, hi⟩ h0
    rw [h2, Bool.and_false]
theorem kAn31 : ∀ k : Fin 32, nI k.val &&& 31 = nI k.val := by decide +kernel
theorem kSm32 : ∀ k : Fin 32, ((nI k.val).toBitVec.smod 32#32).toNat = k.val := by decide +kernel
theorem kShB (x : Int32) {j : Nat} (hj : j < 32) : (x >>> (nI j &&& 31) &&& 1).toBitVec = (x.toBitVec.sshiftRight j) &&& 1#32 := by
  rw [kAn31 ⟨j, hj⟩]
  show (BitVec.sshiftRight x.toBitVec ((nI j).toBitVec.smod 32#32).toNat) &&& 1#32 = _
  rw [kSm32 ⟨j, hj⟩]
theorem kIsB_bit (x : Int32) {j : Nat} (hj : j < 32) : (kIsB x (nI j) = 0 ↔ x.toBitVec.getLsbD j = false) := by
  unfold kIsB
  cases hb : x.toBitVec.getLsbD j with
  | false =>
    have e : x >>> (nI j &&& 31) &&& 1 = 0 := Int32.toBitVec_inj.mp (by rw [kShB x hj]; exact kSh0 _ _ hb hj)
    rw [if_pos e]
    exact ⟨fun _ => rfl, fun _ => rfl⟩
  | true =>
    have e : x >>> (nI j &&& 31) &&& 1 = 1 := Int32.toBitVec_inj.mp (by rw [kShB x hj]; exact kSh1 _ _ hb hj)
    have e2 : ¬ x >>> (nI j &&& 31) &&& 1 = 0 := fun z => absurd (e.symm.trans z) (by decide)
    rw [if_neg e2]
    exact ⟨fun z => absurd z (by decide), fun z => absurd z (by decide)⟩
theorem kIsB_and {a b : Int32} {j : Nat} (hj : j < 32) : (¬ kIsB (a &&& (b ^^^ (-1))) (nI j) = 0 ↔ ¬ kIsB a (nI j) = 0 ∧ kIsB b (nI j) = 0) := by
  rw [kIsB_bit _ hj, kIsB_bit _ hj, kIsB_bit _ hj]
  have e1 : (a &&& (b ^^^ (-1))).toBitVec = a.toBitVec &&& (b.toBitVec ^^^ BitVec.allOnes 32) := rfl
  rw [e1, BitVec.getLsbD_and, BitVec.getLsbD_xor, BitVec.getLsbD_allOnes, decide_eq_true hj]
  cases a.toBitVec.getLsbD j <;> cases b.toBitVec.getLsbD j <;> decide
theorem kPfU {f f1 a : Nat → Int32} {i : Nat} {v : Int32} (hi : i < 2 ^ 31) (e : f1 = upd f (Int32.toNatClampNeg (nI i)) v) (hv : v = a i) (H : ∀ j : Nat, j < i → f j = a j) : ∀ j : Nat, j < i + 1 → f1 j = a j := fun j hj => by
  rw [e, nI_clamp hi]
  by_cases z : j = i
  · rw [z, pk_us]; exact hv
  · rw [pk_un z]; exact H j (by omega)
theorem kIt_1 (E : kEn) (S : kRst) : kIt E 0 S = S := rfl
/-- one put in less, one elsewhere -/
theorem kRp_put {ks j : Nat} {S : kRst} {h p l t p1 : Nat → Int32} {v : Int32} (H : kRp ks S h p l t) (e : p1 = upd p j v) : kRp ks (S.1, upd S.2.1 j v, S.2.2.1, S.2.2.2.1, S.2.2.2.2.1, S.2.2.2.2.2) h p1 l t := fun q hq => by
  obtain ⟨h1, h2, h3, h4⟩ := H q hq
  refine ⟨h1, ?_, h3, h4⟩
  rw [e]
  show upd p j v q = upd S.2.1 j v q
  by_cases z : q = j
  · rw [z, pk_us, pk_us]
  · rw [pk_un z, pk_un z]; exact h2
theorem kRp_mov {ks j : Nat} {S : kRst} {h p l t l1 : Nat → Int32} {v : Int32} (H : kRp ks S h p l t) (e : l1 = upd l j v) : kRp ks (S.1, S.2.1, upd S.2.2.1 j v, S.2.2.2.1, S.2.2.2.2.1, S.2.2.2.2.2) h p l1 t := fun q hq => by
  obtain ⟨h1, h2, h3, h4⟩ := H q hq
  refine ⟨h1, h2, ?_, h4⟩
  rw [e]
  show upd l j v q = upd S.2.2.1 j v q
  by_cases z : q = j
  · rw [z, pk_us, pk_us]
  · rw [pk_un z, pk_un z]; exact h3
theorem kOk_put {ks j : Nat} {S : kRst} {v : Int32} (H : kOk ks S) (hv : 0 ≤ v.toInt ∧ v.toInt ≤ 99) : kOk ks (S.1, upd S.2.1 j v, S.2.2.1, S.2.2.2.1, S.2.2.2.2.1, S.2.2.2.2.2) := fun q hq => by
  obtain ⟨h1, h2, h3⟩ := H q hq
  refine ⟨h1, ?_, h3⟩
  show 0 ≤ (upd S.2.1 j v q).toInt ∧ (upd S.2.1 j v q).toInt ≤ 99
  by_cases z : q = j
  · rw [z, pk_us]; exact hv
  · rw [pk_un z]; exact h2
theorem kOk_mov {ks j : Nat} {S : kRst} {v : Int32} (H : kOk ks S) (hv : v = -1 ∨ ∃ w : Nat, w < 4 ∧ v = nI w) : kOk ks (S.1, S.2.1, upd S.2.2.1 j v, S.2.2.2.1, S.2.2.2.2.1, S.2.2.2.2.2) := fun q hq => by
  obtain ⟨h1, h2, h3⟩ := H q hq
  refine ⟨h1, h2, ?_⟩
  show upd S.2.2.1 j v q = -1 ∨ ∃ w : Nat, w < 4 ∧ upd S.2.2.1 j v q = nI w
  by_cases z : q = j
  · rw [z, pk_us]; exact hv
  · rw [pk_un z]; exact h3
/-- 99 given back leaves nothing -/
theorem kBack99 {x y z : Int32} (hx : 0 ≤ x.toInt ∧ x.toInt ≤ 99) (ey : y = x - 99) (ez : z = if (0 : Int32) < y then y else 0) : z = 0 := by
  have h99 : (99 : Int32).toInt = 99 := by decide
  have h0 : (0 : Int32).toInt = 0 := by decide
  have h1 : y.toInt = x.toInt - 99 := by
    rw [ey, Int32.toInt_sub, h99]
    exact Int.bmod_eq_of_le (by omega) (by omega)
  rw [ez, if_neg]
  intro h
  have h2 := Int32.lt_iff_toInt_lt.mp h
  omega
/-- what a run answers -/
def kRunV (w : Int32) (F : kRst) (j : Nat) : Int32 := if w = 0 then F.1 j else if w = 1 then F.2.2.1 j else F.2.2.2.1 j
def kRunA (kl ks kw : Nat) (g0 g1 g2 g3 g4 : Nat → Int32) (sv : Nat) (yL : Nat → List kTr) (p0 : Int32) (p1 : Int64) (p2 p3 p4 : Int32) : Int32 := if kPn p0 kl = 0 then -1000 else if kIn p2 0 48 = 0 then -1000 else if kPn p3 ks = 0 then -1000 else if kIn p4 0 2 = 0 then -1000 else kRunV p4 (kIt (kE0 ks kw g3 g4 sv (kPrs ks 0) (yL (Int32.toNatClampNeg p0))) (Int32.toNatClampNeg p2) (kS0 g0 g1 g2 p1)) (Int32.toNatClampNeg p3)
def kDidA (kl ks kw : Nat) (g0 g1 g2 g3 g4 : Nat → Int32) (sv : Nat) (yL : Nat → List kTr) (p0 : Int32) (p1 : Int64) (p2 : Int32) : Int32 := if kPn p0 kl = 0 then -1000 else if kPn p2 ks = 0 then -1000 else if ¬ kIsB (nI sv) p2 = 0 then -1000 else (kIt (kE0 ks kw g3 g4 sv (kPrs ks 0) (yL (Int32.toNatClampNeg p0))) 48 (kS0 g0 g1 g2 p1)).1 (Int32.toNatClampNeg p2) - (kIt (kE0 ks kw g3 g4 sv (kPrs ks (nI sv)) (yL (Int32.toNatClampNeg p0))) 48 (kS0 g0 g1 g2 p1)).1 (Int32.toNatClampNeg p2)
def kLeaS (w : Int32) (S : kRst) (j : Nat) : kRst := if w = 0 then (S.1, upd S.2.1 j 0, S.2.2.1, S.2.2.2.1, S.2.2.2.2.1, S.2.2.2.2.2) else (S.1, S.2.1, upd S.2.2.1 j (-1), S.2.2.2.1, S.2.2.2.2.1, S.2.2.2.2.2)
def kLeaA (kl ks kw : Nat) (g0 g1 g2 g3 g4 : Nat → Int32) (sv : Nat) (yL : Nat → List kTr) (p0 : Int32) (p1 : Int64) (p2 p3 : Int32) : Int32 := if kPn p0 kl = 0 then -1000 else if kPn p2 ks = 0 then -1000 else if ¬ kIsB (nI sv) p2 = 0 then -1000 else if kIn p3 0 1 = 0 then -1000 else (kIt (kE0 ks kw g3 g4 sv (kPrs ks 0) (yL (Int32.toNatClampNeg p0))) 48 (kS0 g0 g1 g2 p1)).1 (Int32.toNatClampNeg p2) - (kIt (kE0 ks kw g3 g4 sv (kPrs ks 0) (yL (Int32.toNatClampNeg p0))) 48 (kLeaS p3 (kS0 g0 g1 g2 p1) (Int32.toNatClampNeg p2))).1 (Int32.toNatClampNeg p2)
/-- whether all these are persons -/
def kHal (ks : Nat) (p : Int32) : Int32 := if p &&& (kEvb ks ^^^ (-1)) = 0 then 1 else 0
theorem kEvb_n {ks : Nat} (h : ks ≤ 10) : kEvb ks = nI (2 ^ ks - 1) := by
  unfold kEvb
  rw [kShl (by omega)]
  exact pk_sub (a := 2 ^ ks) (b := 1) (Nat.one_le_two_pow)
theorem kP10x {n : Nat} (h : n ≤ 10) : 2 ^ n ≤ 1024 := (Nat.pow_le_pow_right (by decide) h : 2 ^ n ≤ 2 ^ 10)
theorem kEvb_b {ks j : Nat} (h : ks ≤ 10) (hj : j < 32) : (kEvb ks).toBitVec.getLsbD j = decide (j < ks) := by
  rw [kEvb_n h]
  show (BitVec.ofNat 32 (2 ^ ks - 1)).getLsbD j = _
  rw [BitVec.getLsbD_ofNat, decide_eq_true hj, Bool.true_and, Nat.testBit_two_pow_sub_one]
theorem kHalB {ks j : Nat} {p : Int32} (h : ks ≤ 10) (hj : j < 32) : (p &&& (kEvb ks ^^^ (-1))).toBitVec.getLsbD j = (p.toBitVec.getLsbD j && !decide (j < ks)) := by
  have e1 : (p &&& (kEvb ks ^^^ (-1))).toBitVec = p.toBitVec &&& ((kEvb ks).toBitVec ^^^ BitVec.allOnes 32) := rfl
  rw [e1, BitVec.getLsbD_and, BitVec.getLsbD_xor, BitVec.getLsbD_allOnes, decide_eq_true hj, kEvb_b h hj, Bool.xor_true]
theorem kHal_ok {ks : Nat} {p : Int32} (h : ks ≤ 10) (h1 : ¬ p < 0) (h2 : ¬ kEvb ks < p) : ¬ kHal ks p = 0 := by
  obtain ⟨a, ha, ea⟩ := nI_of h1
  have h10 := kP10x h
  have h3 : a < 2 ^ ks := by
    rw [kEvb_n h, ea] at h2
    have := knlt (a := 2 ^ ks - 1) (b := a) (by omega) ha h2
    have := Nat.one_le_two_pow (n := ks)
    omega
  unfold kHal
  rw [if_pos]
  · decide
  · apply Int32.toBitVec_inj.mp
    apply BitVec.eq_of_getLsbD_eq
    intro j hj
    rw [kHalB h hj, ea]
    show ((BitVec.ofNat 32 a).getLsbD j && !decide (j < ks)) = (0#32).getLsbD j
    rw [BitVec.getLsbD_ofNat, decide_eq_true hj, Bool.true_and, BitVec.getLsbD_zero]
    by_cases z : j < ks
    · rw [decide_eq_true z]; simp
    · rw [Nat.testBit_lt_two_pow (Nat.lt_of_lt_of_le h3 (Nat.pow_le_pow_right (by decide) (by omega)))]; rfl
theorem kHal_y {ks : Nat} {p : Int32} (h : ks ≤ 10) (hh : ¬ kHal ks p = 0) : ¬ p < 0 ∧ ¬ kEvb ks < p := by
  unfold kHal at hh
  by_cases hz : p &&& (kEvb ks ^^^ (-1)) = 0
  · have hb : ∀ j : Nat, ks ≤ j → p.toBitVec.toNat.testBit j = false := fun j hj => by
      by_cases hj2 : j < 32
      · have h3 := kHalB (p := p) h hj2
        rw [hz, decide_eq_false (by omega : ¬ j < ks), Bool.not_false, Bool.and_true] at h3
        have h4 : (0 : Int32).toBitVec.getLsbD j = false := by show (0#32).getLsbD j = false; exact BitVec.getLsbD_zero
        rw [h4] at h3
        exact h3.symm
      · exact Nat.testBit_lt_two_pow (Nat.lt_of_lt_of_le p.toBitVec.isLt (Nat.pow_le_pow_right (by decide) (by omega)))
    have hlt : p.toBitVec.toNat < 2 ^ ks := Nat.lt_pow_two_of_testBit _ hb
    have h10 := kP10x h
    have ep : p = nI p.toBitVec.toNat := Int32.toBitVec_inj.mp (by show p.toBitVec = BitVec.ofNat 32 p.toBitVec.toNat; rw [BitVec.ofNat_toNat, BitVec.setWidth_eq])
    constructor
    · rw [ep]; exact nI_pos (by omega)
    · rw [kEvb_n h, ep]
      intro z
      have := klt (a := 2 ^ ks - 1) (b := p.toBitVec.toNat) (by omega) (by omega) z
      omega
  · rw [if_neg hz] at hh; exact absurd rfl hh
def kWitA (kl ks kw : Nat) (g0 g1 g2 g3 g4 : Nat → Int32) (sv : Nat) (yL : Nat → List kTr) (p0 : Int32) (p1 : Int64) (p2 p3 : Int32) : Int32 := if kPn p0 kl = 0 then -1000 else if kPn p3 ks = 0 then -1000 else if kHal ks p2 = 0 then -1000 else if ¬ kIsB p2 p3 = 0 then -1000 else (kIt (kE0 ks kw g3 g4 sv (kPrs ks p2) (yL (Int32.toNatClampNeg p0))) 48 (kS0 g0 g1 g2 p1)).1 (Int32.toNatClampNeg p3)
theorem kWit_no {kl ks kw : Nat} {g0 g1 g2 g3 g4 : Nat → Int32} {sv : Nat} {yL : Nat → List kTr} {p0 : Int32} {p1 : Int64} {p2 p3 : Int32} (h : kPn p0 kl = 0 ∨ kPn p3 ks = 0 ∨ kHal ks p2 = 0 ∨ ¬ kIsB p2 p3 = 0) : kWitA kl ks kw g0 g1 g2 g3 g4 sv yL p0 p1 p2 p3 = -1000 := by
  unfold kWitA
  by_cases h1 : kPn p0 kl = 0
  · rw [if_pos h1]
  · rw [if_neg h1]
    by_cases h2 : kPn p3 ks = 0
    · rw [if_pos h2]
    · rw [if_neg h2]
      by_cases h3 : kHal ks p2 = 0
      · rw [if_pos h3]
      · rw [if_neg h3]
        by_cases h4 : kIsB p2 p3 = 0
        · exact absurd h4 (h.resolve_left h1 |>.resolve_left h2 |>.resolve_left h3)
        · rw [if_pos h4]
def kHmC (pr : Int32) (S : kRst) : Nat → Bool := fun j => decide (¬ kIsB pr (nI j) = 0) && decide (S.2.2.1 j = -1)
theorem kHmC_t {pr : Int32} {S : kRst} {j : Nat} : kHmC pr S j = true ↔ ¬ kIsB pr (nI j) = 0 ∧ S.2.2.1 j = -1 := by
  unfold kHmC
  rw [Bool.and_eq_true, decide_eq_true_iff, decide_eq_true_iff]
def kGuC (pr : Int32) (S : kRst) : Nat → Bool := fun j => decide (¬ kIsB pr (nI j) = 0) && decide (S.1 j < 20)
theorem kGuC_t {pr : Int32} {S : kRst} {j : Nat} : kGuC pr S j = true ↔ ¬ kIsB pr (nI j) = 0 ∧ S.1 j < 20 := by
  unfold kGuC
  rw [Bool.and_eq_true, decide_eq_true_iff, decide_eq_true_iff]
/-- those of whom c holds, as bits -/
def kBts (c : Nat → Bool) : Nat → Nat
  | 0 => 0
  | n + 1 => if c n then kBts c n ||| 2 ^ n else kBts c n
theorem kBts_t {c : Nat → Bool} {n : Nat} (h : c n = true) : kBts c (n + 1) = kBts c n ||| 2 ^ n := if_pos h
theorem kBts_f {c : Nat → Bool} {n : Nat} (h : ¬ c n = true) : kBts c (n + 1) = kBts c n := if_neg h
theorem kBts_lt (c : Nat → Bool) : ∀ n : Nat, kBts c n < 2 ^ n := by
  intro n
  induction n with
  | zero => exact Nat.one_pos
  | succ n ih =>
    have h1 : 2 ^ n < 2 ^ (n + 1) := by rw [Nat.pow_succ]; have := Nat.one_le_two_pow (n := n); omega
    unfold kBts
    split
    · exact Nat.or_lt_two_pow (by omega) h1
    · omega
theorem kBtsU {c : Nat → Bool} {i : Nat} {x y z : Int32} (hi : i < 31) (hx : x = nI (kBts c i)) (hc : c i = true) (ey : y = (1 : Int32) <<< (nI i &&& 31)) (ez : z = x ||| y) : z = nI (kBts c (i + 1)) := by
  rw [kBts_t hc, ez, hx, ey, kShl hi, nI_or]
theorem kBtsA {c : Nat → Bool} {i : Nat} {x y z : Int32} (hi : i < 31) (hx : x = nI (kBts c i)) (hc : c i = true) (ey : y = (1 : Int32) <<< (nI i &&& 31)) (ez : z = x + y) : z = nI (kBts c (i + 1)) := by
  have h := Nat.two_pow_add_eq_or_of_lt (kBts_lt c i) 1
  rw [Nat.mul_one] at h
  rw [kBts_t hc, ez, hx, ey, kShl hi, Nat.or_comm, ← h, Nat.add_comm]
  exact nI_add _ _
def kAllV (w pr : Int32) (S : kRst) (n : Nat) : Int32 := if w = 0 then kSm (kHmC pr S) (fun _ => 1) n else nI (kBts (kGuC pr S) n)
def kAllA (kl ks kw : Nat) (g0 g1 g2 g3 g4 : Nat → Int32) (sv : Nat) (yL : Nat → List kTr) (p0 : Int32) (p1 : Int64) (p2 p3 : Int32) : Int32 := if kPn p0 kl = 0 then -1 else if kIn p2 0 48 = 0 then -1 else if kIn p3 0 1 = 0 then -1 else kAllV p3 (kPrs ks 0) (kIt (kE0 ks kw g3 g4 sv (kPrs ks 0) (yL (Int32.toNatClampNeg p0))) (Int32.toNatClampNeg p2) (kS0 g0 g1 g2 p1)) ks
theorem kPrs0 (ks : Nat) : kPrs ks 0 = kEvb ks := by
  unfold kPrs
  apply Int32.toBitVec_inj.mp
  show (kEvb ks).toBitVec &&& (0#32 ^^^ BitVec.allOnes 32) = (kEvb ks).toBitVec
  rw [BitVec.zero_xor, BitVec.and_allOnes]
theorem kPrs0_b {ks j : Nat} (h : ks ≤ 10) (hj : j < ks) : ¬ kIsB (kPrs ks 0) (nI j) = 0 := by
  rw [kPrs0, kIsB_bit _ (by omega), kEvb_b h (by omega), decide_eq_true hj]
  decide
theorem kLcS (a : Int64) : lg_cmp a a = 0 := by
  unfold lg_cmp
  rw [if_neg (fun h : a > a => by have h2 := Int64.lt_iff_toInt_lt.mp h; omega), if_pos rfl]
/-- whether there is a worth to tell; which -/
def kWoE (kl ks : Nat) (p0 p1 p2 : Int32) : Int32 := if kPn p0 kl = 0 then 1 else if kIn p1 0 2 = 0 then 1 else if kPn p2 ks = 0 then 1 else 0
def kWoV (kl ks kw : Nat) (g0 g1 g2 g3 g4 : Nat → Int32) (sv : Nat) (yL : Nat → List kTr) (p0 p1 p2 : Int32) : Int32 := kYy (kE0 ks kw g3 g4 sv (kPrs ks 0) (yL (Int32.toNatClampNeg p0))) (kS0 g0 g1 g2 0) (Int32.toNatClampNeg p1) (Int32.toNatClampNeg p2)
/-- the rows of what is told -/
def kPeF (p q u : Int32) (k : Nat) (v : Int32) (f : Nat → Int32) : Nat → Int32 := if kPerN p q u k = k then f else upd f k v
def kKn2 (f : Nat → Int32) (a b : Nat) : Nat → Int32 := upd (upd f a (f a ||| ((1 : Int32) <<< (nI b &&& 31)))) b ((upd f a (f a ||| ((1 : Int32) <<< (nI b &&& 31)))) b ||| ((1 : Int32) <<< (nI a &&& 31)))
def kKnF (p q : Int32) (k : Nat) (f : Nat → Int32) : Nat → Int32 := if kKnow p q k = 0 then f else kKn2 f (Int32.toNatClampNeg p) (Int32.toNatClampNeg q)
def kSayF (p t : Int32) (ks ku : Nat) (f : Nat → Int32) : Nat → Int32 := if kPn p ks = 0 then f else if t = -1 then upd f (Int32.toNatClampNeg p) t else if kPn t ku = 0 then f else upd f (Int32.toNatClampNeg p) t
def kWdF (p : Int32) (k : Nat) (f : Nat → Int32) : Nat → Int32 := if kWordN p k = k then f else upd f k p
