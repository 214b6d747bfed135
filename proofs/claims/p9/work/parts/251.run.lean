/-- a sum over those of whom c holds -/
def kSm (c : Nat → Bool) (f : Nat → Int32) : Nat → Int32
  | 0 => 0
  | n + 1 => if c n then kSm c f n + f n else kSm c f n
theorem kSm_t {c : Nat → Bool} {f : Nat → Int32} {n : Nat} (h : c n = true) : kSm c f (n + 1) = kSm c f n + f n := if_pos h
theorem kSm_f {c : Nat → Bool} {f : Nat → Int32} {n : Nat} (h : ¬ c n = true) : kSm c f (n + 1) = kSm c f n := if_neg h
/-- all but one, and that one -/
def kBut (j : Nat) (c : Nat → Bool) : Nat → Bool := fun o => decide (¬ o = j) && c o
theorem kAddI {a b : Int32} (h1 : -2147483648 ≤ a.toInt + b.toInt) (h2 : a.toInt + b.toInt < 2147483648) : (a + b).toInt = a.toInt + b.toInt := by
  rw [Int32.toInt_add]
  exact Int.bmod_eq_of_le (by omega) (by omega)
theorem kSm_b {c : Nat → Bool} {f : Nat → Int32} {M : Nat} (hM : M ≤ 1000) : ∀ n : Nat, n ≤ 20 → (∀ o : Nat, o < n → 0 ≤ (f o).toInt ∧ (f o).toInt ≤ M) → 0 ≤ (kSm c f n).toInt ∧ (kSm c f n).toInt ≤ M * n := by
  intro n
  induction n with
  | zero => intro _ _; exact ⟨by show (0 : Int) ≤ (0 : Int32).toInt; decide, by show (0 : Int32).toInt ≤ _; rw [show (0 : Int32).toInt = 0 by decide]; omega⟩
  | succ n ih =>
    intro hn h
    have e := ih (by omega) (fun o ho => h o (by omega))
    have hf := h n (by omega)
    have hq : (M : Int) * (n + 1 : Nat) = M * n + M := by rw [Int.natCast_add, Int.mul_add]; simp
    have hmn : (M : Int) * n ≤ 20000 := by
      have : M * n ≤ 1000 * 20 := Nat.mul_le_mul hM (by omega)
      have h9 : ((M * n : Nat) : Int) ≤ 20000 := by omega
      rw [Int.natCast_mul] at h9
      exact h9
    by_cases z : c n = true
    · rw [kSm_t z, kAddI (by omega) (by omega), hq]
      omega
    · rw [kSm_f z, hq]
      omega
/-- a run: what each holds, what it has put in, where it is, since when it tells, what was drawn, the hour -/
abbrev kRst : Type := (Nat → Int32) × (Nat → Int32) × (Nat → Int32) × (Nat → Int32) × Int64 × Nat
/-- what a run goes by: how many persons, how many words, whom each knows, the words, who is sent, who is there, the law -/
abbrev kEn : Type := Nat × Nat × (Nat → Int32) × (Nat → Int32) × (Nat → Int32) × (Nat → Int32) × List kTr
/-- there, and in a house -/
def kIh (E : kEn) (S : kRst) (q : Int32) : Nat → Bool := fun o => decide (¬ E.2.2.2.2.2.1 o = 0) && decide (S.2.2.1 o = q)
def kNn (E : kEn) (S : kRst) (j : Nat) : Int32 := if S.2.2.1 j = -1 then 0 else kSm (kBut j (kIh E S (S.2.2.1 j))) (fun _ => 1) E.1
def kNh (E : kEn) (S : kRst) (j : Nat) : Int32 := if S.2.2.1 j = -1 then 0 else kSm (kBut j (kIh E S (S.2.2.1 j))) S.1 E.1
def kNse (E : kEn) (S : kRst) (j : Nat) : Int32 := if S.2.2.1 j = -1 then 0 else kSm (kBut j (kIh E S (S.2.2.1 j))) E.2.2.2.2.1 E.1
/-- the words that are past, and the latest of them -/
def kPa (f : Nat → Int32) (h : Int32) : Nat → Bool := fun i => decide (f i ≤ h)
def kLa (f : Nat → Int32) (h : Int32) : Nat → Int32
  | 0 => -1
  | n + 1 => if f n ≤ h then (if kLa f h n < f n then f n else kLa f h n) else kLa f h n
def kUu (E : kEn) (S : kRst) : Int32 := kSm (kPa E.2.2.2.1 (nI S.2.2.2.2.2)) (fun _ => 1) E.2.1
def kDd (E : kEn) (S : kRst) : Int32 := if kLa E.2.2.2.1 (nI S.2.2.2.2.2) E.2.1 = -1 then 0 else nI S.2.2.2.2.2 - kLa E.2.2.2.1 (nI S.2.2.2.2.2) E.2.1
/-- the letters of one -/
def kLe (E : kEn) (S : kRst) (j : Nat) : Nat → Int32 := fun k => if k = 0 then S.1 j else if k = 1 then S.2.1 j else if k = 2 then kNn E S j else if k = 3 then (if kNn E S j = 0 then 0 else kNh E S j / kNn E S j) else if k = 4 then kNse E S j else if k = 5 then kUu E S else if k = 6 then kDd E S else nI S.2.2.2.2.2
/-- what a label is worth to one -/
def kYy (E : kEn) (S : kRst) (lab j : Nat) : Int32 := kWoT (kLe E S j) lab E.2.2.2.2.2.2
def kFr (E : kEn) (j : Nat) : Bool := decide (¬ E.2.2.2.2.2.1 j = 0) && decide (E.2.2.2.2.1 j = 0)
theorem kFr_t {E : kEn} {j : Nat} : kFr E j = true ↔ ¬ E.2.2.2.2.2.1 j = 0 ∧ E.2.2.2.2.1 j = 0 := by
  unfold kFr
  rw [Bool.and_eq_true, decide_eq_true_iff, decide_eq_true_iff]
def kWi (x : Int32) : Int32 := if x < 0 then 0 else if 100 < x then 100 else x
theorem kWi_b (x : Int32) : 0 ≤ (kWi x).toInt ∧ (kWi x).toInt ≤ 100 := by
  unfold kWi
  have h100 : (100 : Int32).toInt = 100 := by decide
  have h0 : (0 : Int32).toInt = 0 := by decide
  split
  · rw [h0]; omega
  · next h1 =>
    split
    · rw [h100]; omega
    · next h2 =>
      have h3 : ¬ x.toInt < (0 : Int32).toInt := fun z => h1 (Int32.lt_iff_toInt_lt.mpr z)
      have h4 : ¬ (100 : Int32).toInt < x.toInt := fun z => h2 (Int32.lt_iff_toInt_lt.mpr z)
      omega
/-- behind the law's more or less -/
def kH1 (E : kEn) (S : kRst) (j : Nat) : Int32 := if kFr E j then kWi (S.1 j + kYy E S 0 j) else S.1 j
def kTe (E : kEn) (S : kRst) (j : Nat) : Bool := kFr E j && decide (50 ≤ kH1 E S j)
def kT1 (E : kEn) (S : kRst) (j : Nat) : Int32 := if kTe E S j then (if S.2.2.2.1 j = -1 then nI S.2.2.2.2.2 else S.2.2.2.1 j) else S.2.2.2.1 j
def kNr (S : kRst) (j k : Nat) : Bool := decide (¬ S.2.2.1 j = -1) && decide (S.2.2.1 j = S.2.2.1 k)
/-- whether one tells another -/
def kTn (E : kEn) (S : kRst) (k : Nat) : Nat → Bool := fun j => kTe E S j && (decide (¬ kIsB (E.2.2.1 j) (nI k) = 0) && !kNr S j k)
def kHe (E : kEn) (S : kRst) (k n : Nat) : Int32 := kSm (kTn E S k) (fun j => kYy E S 2 j) n
def kH2 (E : kEn) (S : kRst) (j : Nat) : Int32 := if kFr E j then kWi (kH1 E S j + kHe E S j E.1) else kH1 E S j
def kDr (x : Int64) : Int64 := x * 6364136223846793005 + 1442695040888963407
def kRv (x : Int64) : Int64 := (x.toUInt64 >>> ((33 : Int32).toInt64.toUInt64 &&& Int64.toUInt64 63)).toInt64
def kRm (x : Int64) : Int64 := kRv x - kRv x / 100 * 100
def kGo (x : Int64) (g : Int32) : Bool := decide (lg_cmp (kRm x) (Int32.toInt64 g) < 0)
def kMay (E : kEn) (S : kRst) (j : Nat) : Bool := kFr E j && decide (¬ S.2.2.1 j = -1)
theorem kMay_t {E : kEn} {S : kRst} {j : Nat} : kMay E S j = true ↔ kFr E j = true ∧ ¬ S.2.2.1 j = -1 := by
  unfold kMay
  rw [Bool.and_eq_true, decide_eq_true_iff]
def kGh (E : kEn) (S : kRst) : Nat → Int64 × (Nat → Int32)
  | 0 => (S.2.2.2.2.1, S.2.2.1)
  | n + 1 => if kMay E S n then (kDr (kGh E S n).1, if kGo (kDr (kGh E S n).1) (kYy E S 1 n) then upd (kGh E S n).2 n (-1) else (kGh E S n).2) else kGh E S n
theorem kGh_or {E : kEn} {S : kRst} : ∀ n q : Nat, (kGh E S n).2 q = S.2.2.1 q ∨ (kGh E S n).2 q = -1 := by
  intro n
  induction n with
  | zero => intro q; exact Or.inl rfl
  | succ n ih =>
    intro q
    have e := ih q
    unfold kGh
    split
    · show (if kGo (kDr (kGh E S n).1) (kYy E S 1 n) then upd (kGh E S n).2 n (-1) else (kGh E S n).2) q = _ ∨ (if kGo (kDr (kGh E S n).1) (kYy E S 1 n) then upd (kGh E S n).2 n (-1) else (kGh E S n).2) q = _
      split
      · by_cases z : q = n
        · exact Or.inr (by rw [z, pk_us])
        · rw [pk_un z]; exact e
      · exact e
    · exact e
/-- one hour -/
def kStp (E : kEn) (S : kRst) : kRst := (kH2 E S, S.2.1, (kGh E S E.1).2, kT1 E S, (kGh E S E.1).1, S.2.2.2.2.2 + 1)
def kIt (E : kEn) : Nat → kRst → kRst
  | 0, S => S
  | n + 1, S => kStp E (kIt E n S)
theorem kIt_hr (E : kEn) (S : kRst) : ∀ n : Nat, (kIt E n S).2.2.2.2.2 = S.2.2.2.2.2 + n := by
  intro n
  induction n with
  | zero => rfl
  | succ n ih => show (kIt E n S).2.2.2.2.2 + 1 = _; rw [ih]; omega
/-- within bounds -/
def kOk (ks : Nat) (S : kRst) : Prop := ∀ j : Nat, j < ks → (0 ≤ (S.1 j).toInt ∧ (S.1 j).toInt ≤ 100) ∧ (0 ≤ (S.2.1 j).toInt ∧ (S.2.1 j).toInt ≤ 99) ∧ (S.2.2.1 j = -1 ∨ ∃ v : Nat, v < 4 ∧ S.2.2.1 j = nI v)
theorem kOk_stp {E : kEn} {S : kRst} {ks : Nat} (h : kOk ks S) : kOk ks (kStp E S) := by
  intro j hj
  obtain ⟨h1, h2, h3⟩ := h j hj
  refine ⟨?_, h2, ?_⟩
  · show 0 ≤ (kH2 E S j).toInt ∧ (kH2 E S j).toInt ≤ 100
    unfold kH2
    split
    · exact kWi_b _
    · unfold kH1
      split
      · exact kWi_b _
      · exact h1
  · show (kGh E S E.1).2 j = -1 ∨ ∃ v : Nat, v < 4 ∧ (kGh E S E.1).2 j = nI v
    rcases kGh_or (E := E) (S := S) E.1 j with e | e
    · rw [e]; exact h3
    · exact Or.inl e
theorem kOk_it {E : kEn} {S : kRst} {ks : Nat} (h : kOk ks S) : ∀ n : Nat, kOk ks (kIt E n S) := by
  intro n
  induction n with
  | zero => exact h
  | succ n ih => exact kOk_stp ih
/-- arrays that hold a run -/
def kRp (ks : Nat) (S : kRst) (h p l t : Nat → Int32) : Prop := ∀ j : Nat, j < ks → h j = S.1 j ∧ p j = S.2.1 j ∧ l j = S.2.2.1 j ∧ t j = S.2.2.2.1 j
theorem kIsB_01 (a b : Int32) : kIsB a b = 0 ∨ kIsB a b = 1 := by unfold kIsB; split; exact Or.inl rfl; exact Or.inr rfl
theorem kDivB {a b : Int32} {M : Int} (ha : 0 ≤ a.toInt ∧ a.toInt ≤ M) (hM : M ≤ 1000000) : -1000000 ≤ (a / b).toInt ∧ (a / b).toInt ≤ 1000000 := by
  have hd : (a.toInt.tdiv b.toInt).natAbs ≤ a.toInt.natAbs := by rw [Int.natAbs_tdiv]; exact Nat.div_le_self _ _
  have h : (a / b).toInt = a.toInt.tdiv b.toInt := by
    rw [Int32.toInt_div]
    exact Int.bmod_eq_of_le (by omega) (by omega)
  rw [h]
  omega
theorem kSm_ge {c : Nat → Bool} {f : Nat → Int32} {n : Nat} (hn : n ≤ 20) (h : ∀ o : Nat, o < n → 0 ≤ (f o).toInt ∧ (f o).toInt ≤ 1000) : kBd (kSm c f n) := by
  have e := kSm_b (c := c) (M := 1000) (Nat.le_refl _) n hn h
  unfold kBd
  omega
theorem kBd_n {v : Nat} (h : v ≤ 1000000) : kBd (nI v) := by
  unfold kBd
  rw [nI_toInt (by omega)]
  omega
theorem kLa_b {f : Nat → Int32} {h : Int32} : ∀ n : Nat, (∀ i : Nat, i < n → 0 ≤ (f i).toInt ∧ (f i).toInt ≤ 47) → -1 ≤ (kLa f h n).toInt ∧ (kLa f h n).toInt ≤ 47 := by
  intro n
  induction n with
  | zero => intro _; exact (by decide : -1 ≤ (-1 : Int32).toInt ∧ (-1 : Int32).toInt ≤ 47)
  | succ n ih =>
    intro hf
    have e := ih (fun i hi => hf i (by omega))
    have e2 := hf n (by omega)
    unfold kLa
    split
    · split
      · omega
      · exact e
    · exact e
/-- a run's letters are small -/
theorem kLe_b {E : kEn} {S : kRst} {j : Nat} (hk : E.1 ≤ 10) (hw : E.2.1 ≤ 4) (hr : S.2.2.2.2.2 ≤ 48) (ho : kOk E.1 S) (hj : j < E.1) (hs : ∀ o : Nat, E.2.2.2.2.1 o = 0 ∨ E.2.2.2.2.1 o = 1) (hf : ∀ i : Nat, i < E.2.1 → 0 ≤ (E.2.2.2.1 i).toInt ∧ (E.2.2.2.1 i).toInt ≤ 47) : ∀ k : Nat, kBd (kLe E S j k) := by
  intro k
  obtain ⟨h1, h2, _⟩ := ho j hj
  have h11 : (1 : Int32).toInt = 1 := by decide
  have h10 : (0 : Int32).toInt = 0 := by decide
  have hh : ∀ c : Nat → Bool, 0 ≤ (kSm c S.1 E.1).toInt ∧ (kSm c S.1 E.1).toInt ≤ (100 : Nat) * E.1 := fun c => kSm_b (M := 100) (by decide) E.1 (by omega) (fun o ho2 => by have := (ho o ho2).1; omega)
  unfold kLe
  split
  · unfold kBd; omega
  · split
    · unfold kBd; omega
    · split
      · unfold kNn
        split
        · exact kBd0
        · exact kSm_ge (by omega) (fun o _ => by rw [h11]; omega)
      · split
        · split
          · exact kBd0
          · unfold kNh
            split
            · exact kDivB (M := 0) (by rw [h10]; omega) (by omega)
            · have := hh (kBut j (kIh E S (S.2.2.1 j)))
              exact kDivB (M := 1000) (by omega) (by omega)
        · split
          · unfold kNse
            split
            · exact kBd0
            · exact kSm_ge (by omega) (fun o _ => by rcases hs o with z | z <;> (rw [z]; omega))
          · split
            · unfold kUu
              exact kSm_ge (by omega) (fun o _ => by rw [h11]; omega)
            · split
              · unfold kDd
                split
                · exact kBd0
                · have e := kLa_b (h := nI S.2.2.2.2.2) E.2.1 hf
                  have e2 := nI_toInt (n := S.2.2.2.2.2) (by omega)
                  unfold kBd
                  have e3 : (nI S.2.2.2.2.2 - kLa E.2.2.2.1 (nI S.2.2.2.2.2) E.2.1).toInt = (nI S.2.2.2.2.2).toInt - (kLa E.2.2.2.1 (nI S.2.2.2.2.2) E.2.1).toInt := by
                    rw [Int32.toInt_sub]
                    exact Int.bmod_eq_of_le (by omega) (by omega)
                  rw [e3]
                  omega
              · exact kBd_n (by omega)
/-- everybody, and those who are there -/
def kEvb (ks : Nat) : Int32 := ((1 : Int32) <<< (nI ks &&& 31)) - 1
def kPrs (ks : Nat) (ab : Int32) : Int32 := kEvb ks &&& (ab ^^^ (-1))
abbrev kE0 (ks kw : Nat) (g3 g4 : Nat → Int32) (sv : Nat) (pr : Int32) (t : List kTr) : kEn := (ks, kw, g3, g4, (fun j => kIsB (nI sv) (nI j)), (fun j => kIsB pr (nI j)), t)
abbrev kS0 (g0 g1 g2 : Nat → Int32) (x : Int64) : kRst := (g0, g1, g2, (fun _ => -1), x, 0)
theorem kSh1 (x : BitVec 32) (n : Nat) (hb : x.getLsbD n = true) (h : n < 32) : (x.sshiftRight n) &&& 1#32 = 1#32 := by
  ext i hi
  simp only [BitVec.getElem_and, BitVec.getElem_sshiftRight]
  by_cases h0 : i = 0
  · subst h0
    rw [dif_pos (by omega)]
    have e1 : x[n + 0] = true := by
      show x[n] = true
      rw [← BitVec.getLsbD_eq_getElem]; exact hb
    rw [e1]; rfl
  · have h2 : (1#32)[i] = false := by
      rw [← BitVec.getLsbD_eq_getElem]
      have : ∀ j : Fin 32, j.val ≠ 0 → (1#32).getLsbD j.val = false := by decide
      exact this ⟨i, hi⟩ h0
    rw [h2, Bool.and_false]
theorem kSh0 (x : BitVec 32) (n : Nat) (hb : x.getLsbD n = false) (h : n < 32) : (x.sshiftRight n) &&& 1#32 = 0#32 := by
  ext i hi
  simp only [BitVec.getElem_and, BitVec.getElem_sshiftRight, BitVec.getElem_zero]
  by_cases h0 : i = 0
  · subst h0
    rw [dif_pos (by omega)]
    have e1 : x[n + 0] = false := by
      show x[n] = false
      rw [← BitVec.getLsbD_eq_getElem]; exact hb
    rw [e1]; rfl
  · have h2 : (1#32)[i] = false := by
      rw [← BitVec.getLsbD_eq_getElem]
      have : ∀ j : Fin 32, j.val ≠ 0 → (1#32).getLsbD j.val = false := by decide
      exact this ⟨i, hi⟩ h0
    rw [h2, Bool.and_false]
theorem kAn31 : ∀ k : Fin 32, nI k.val &&& 31 = nI k.val := by decide +kernel
theorem kSm32 : ∀ k : Fin 32, ((nI k.val).toBitVec.smod 32#32).toNat = k.val := by decide +kernel
theorem kShB (x : Int32) {j : Nat} (hj : j < 32) : (x >>> (nI j &&& 31) &&& 1).toBitVec = (x.toBitVec.sshiftRight j) &&& 1#32 := by
  rw [kAn31 ⟨j, hj⟩]
  show (BitVec.sshiftRight x.toBitVec ((nI j).toBitVec.smod 32#32).toNat) &&& 1#32 = _
  rw [kSm32 ⟨j, hj⟩]
theorem kIsB_bit (x : Int32) {j : Nat} (hj : j < 32) : (kIsB x (nI j) = 0 ↔ x.toBitVec.getLsbD j = false) := by
  unfold kIsB
  cases hb : x.toBitVec.getLsbD j with
  | false =>
    have e : x >>> (nI j &&& 31) &&& 1 = 0 := Int32.toBitVec_inj.mp (by rw [kShB x hj]; exact kSh0 _ _ hb hj)
    rw [if_pos e]
    exact ⟨fun _ => rfl, fun _ => rfl⟩
  | true =>
    have e : x >>> (nI j &&& 31) &&& 1 = 1 := Int32.toBitVec_inj.mp (by rw [kShB x hj]; exact kSh1 _ _ hb hj)
    have e2 : ¬ x >>> (nI j &&& 31) &&& 1 = 0 := fun z => absurd (e.symm.trans z) (by decide)
    rw [if_neg e2]
    exact ⟨fun z => absurd z (by decide), fun z => absurd z (by decide)⟩
theorem kIsB_and {a b : Int32} {j : Nat} (hj : j < 32) : (¬ kIsB (a &&& (b ^^^ (-1))) (nI j) = 0 ↔ ¬ kIsB a (nI j) = 0 ∧ kIsB b (nI j) = 0) := by
  rw [kIsB_bit _ hj, kIsB_bit _ hj, kIsB_bit _ hj]
  have e1 : (a &&& (b ^^^ (-1))).toBitVec = a.toBitVec &&& (b.toBitVec ^^^ BitVec.allOnes 32) := rfl
  rw [e1, BitVec.getLsbD_and, BitVec.getLsbD_xor, BitVec.getLsbD_allOnes, decide_eq_true hj]
  cases a.toBitVec.getLsbD j <;> cases b.toBitVec.getLsbD j <;> decide
theorem kEvb_n {ks : Nat} (h : ks ≤ 10) : kEvb ks = nI (2 ^ ks - 1) := by
  unfold kEvb
  rw [kShl (by omega)]
  exact pk_sub (a := 2 ^ ks) (b := 1) (Nat.one_le_two_pow)
theorem kP10x {n : Nat} (h : n ≤ 10) : 2 ^ n ≤ 1024 := (Nat.pow_le_pow_right (by decide) h : 2 ^ n ≤ 2 ^ 10)
theorem kEvb_b {ks j : Nat} (h : ks ≤ 10) (hj : j < 32) : (kEvb ks).toBitVec.getLsbD j = decide (j < ks) := by
  rw [kEvb_n h]
  show (BitVec.ofNat 32 (2 ^ ks - 1)).getLsbD j = _
  rw [BitVec.getLsbD_ofNat, decide_eq_true hj, Bool.true_and, Nat.testBit_two_pow_sub_one]
/-- those of whom c holds, as bits -/
def kBts (c : Nat → Bool) : Nat → Nat
  | 0 => 0
  | n + 1 => if c n then kBts c n ||| 2 ^ n else kBts c n
theorem kBts_t {c : Nat → Bool} {n : Nat} (h : c n = true) : kBts c (n + 1) = kBts c n ||| 2 ^ n := if_pos h
theorem kBts_f {c : Nat → Bool} {n : Nat} (h : ¬ c n = true) : kBts c (n + 1) = kBts c n := if_neg h
theorem kBtsU {c : Nat → Bool} {i : Nat} {x y z : Int32} (hi : i < 31) (hx : x = nI (kBts c i)) (hc : c i = true) (ey : y = (1 : Int32) <<< (nI i &&& 31)) (ez : z = x ||| y) : z = nI (kBts c (i + 1)) := by
  rw [kBts_t hc, ez, hx, ey, kShl hi, nI_or]
theorem kPrs0 (ks : Nat) : kPrs ks 0 = kEvb ks := by
  unfold kPrs
  apply Int32.toBitVec_inj.mp
  show (kEvb ks).toBitVec &&& (0#32 ^^^ BitVec.allOnes 32) = (kEvb ks).toBitVec
  rw [BitVec.zero_xor, BitVec.and_allOnes]
theorem kPrs0_b {ks j : Nat} (h : ks ≤ 10) (hj : j < ks) : ¬ kIsB (kPrs ks 0) (nI j) = 0 := by
  rw [kPrs0, kIsB_bit _ (by omega), kEvb_b h (by omega), decide_eq_true hj]
  decide
/-- whether there is a worth to tell; which -/
def kWoE (kl ks : Nat) (p0 p1 p2 : Int32) : Int32 := if kPn p0 kl = 0 then 1 else if kIn p1 0 2 = 0 then 1 else if kPn p2 ks = 0 then 1 else 0
def kWoV (kl ks kw : Nat) (g0 g1 g2 g3 g4 : Nat → Int32) (sv : Nat) (yL : Nat → List kTr) (p0 p1 p2 : Int32) : Int32 := kYy (kE0 ks kw g3 g4 sv (kPrs ks 0) (yL (Int32.toNatClampNeg p0))) (kS0 g0 g1 g2 0) (Int32.toNatClampNeg p1) (Int32.toNatClampNeg p2)
/-- one more who may go: in how many ways so many go -/
def kWs (w : Nat → Int64) (c : Int32) : Nat → Int64 := fun i => w i * (100 - Int32.toInt64 c) + (if i = 0 then 0 else w (i - 1) * Int32.toInt64 c)
theorem kWs_c {w w2 : Nat → Int64} {c c2 : Int32} (h : ∀ q : Nat, q ≤ 8 → w q = w2 q) (hc : c = c2) : ∀ q : Nat, q ≤ 8 → kWs w c q = kWs w2 c2 q := fun q hq => by
  unfold kWs
  rw [h q hq, hc]
  by_cases z : q = 0
  · rw [if_pos z, if_pos z]
  · rw [if_neg z, if_neg z, h (q - 1) (by omega)]
def kWy (E : kEn) (S : kRst) : Nat → Nat → Int64
  | 0 => fun i => if i = 0 then 1 else 0
  | n + 1 => if kMay E S n then kWs (kWy E S n) (kWi (kYy E S 1 n)) else kWy E S n
theorem kWy_t {E : kEn} {S : kRst} {n : Nat} (h : kMay E S n = true) : kWy E S (n + 1) = kWs (kWy E S n) (kWi (kYy E S 1 n)) := if_pos h
theorem kWy_f {E : kEn} {S : kRst} {n : Nat} (h : ¬ kMay E S n = true) : kWy E S (n + 1) = kWy E S n := if_neg h
def kMc (E : kEn) (S : kRst) : Nat → Nat
  | 0 => 0
  | n + 1 => if kMay E S n then kMc E S n + 1 else kMc E S n
theorem kMc_t {E : kEn} {S : kRst} {n : Nat} (h : kMay E S n = true) : kMc E S (n + 1) = kMc E S n + 1 := if_pos h
theorem kMc_f {E : kEn} {S : kRst} {n : Nat} (h : ¬ kMay E S n = true) : kMc E S (n + 1) = kMc E S n := if_neg h
def kOdV (E : kEn) (S : kRst) (n k : Nat) : Int64 := if 8 < kMc E S n then -1 else kWy E S n k
def kOdA (kl ks kw : Nat) (g0 g1 g2 g3 g4 : Nat → Int32) (sv : Nat) (yL : Nat → List kTr) (p0 : Int32) (p1 : Int64) (p2 p3 : Int32) : Int64 := if kPn p0 kl = 0 then -1 else if kIn p2 0 47 = 0 then -1 else if kIn p3 0 8 = 0 then -1 else kOdV (kE0 ks kw g3 g4 sv (kPrs ks 0) (yL (Int32.toNatClampNeg p0))) (kIt (kE0 ks kw g3 g4 sv (kPrs ks 0) (yL (Int32.toNatClampNeg p0))) (Int32.toNatClampNeg p2) (kS0 g0 g1 g2 p1)) ks (Int32.toNatClampNeg p3)
/-- who sat alone: nobody else so far in the same house -/
def kAlR (g : Nat → Int32) (j : Nat) : Nat → Bool
  | 0 => true
  | k + 1 => kAlR g j k && (decide (k = j) || decide (¬ g k = g j))
theorem kAlR_s {g : Nat → Int32} {j n : Nat} (h : n = j ∨ ¬ g n = g j) : kAlR g j (n + 1) = kAlR g j n := by
  show (kAlR g j n && (decide (n = j) || decide (¬ g n = g j))) = kAlR g j n
  rcases h with z | z
  · rw [decide_eq_true z, Bool.true_or, Bool.and_true]
  · rw [decide_eq_true z, Bool.or_true, Bool.and_true]
theorem kAlR_n {g : Nat → Int32} {j n : Nat} (h : ¬ n = j) (h2 : g n = g j) : ¬ kAlR g j (n + 1) = true := by
  show ¬ (kAlR g j n && (decide (n = j) || decide (¬ g n = g j))) = true
  rw [decide_eq_false h, decide_eq_false (fun z => z h2), Bool.or_false, Bool.and_false]
  decide
theorem kAlR_m {g : Nat → Int32} {j a : Nat} : ∀ n : Nat, a ≤ n → kAlR g j n = true → kAlR g j a = true := by
  intro n
  induction n with
  | zero => intro h h2; rw [show a = 0 by omega]; rfl
  | succ n ih =>
    intro h h2
    by_cases z : a = n + 1
    · rw [z]; exact h2
    · have h3 : (kAlR g j n && (decide (n = j) || decide (¬ g n = g j))) = true := h2
      rw [Bool.and_eq_true] at h3
      exact ih (by omega) h3.1
theorem kAlR_c {g g2 : Nat → Int32} {j m : Nat} (hj : j < m) (H : ∀ o : Nat, o < m → g o = g2 o) : ∀ n : Nat, n ≤ m → kAlR g j n = kAlR g2 j n := by
  intro n
  induction n with
  | zero => intro _; rfl
  | succ n ih =>
    intro h
    show (kAlR g j n && (decide (n = j) || decide (¬ g n = g j))) = (kAlR g2 j n && (decide (n = j) || decide (¬ g2 n = g2 j)))
    rw [ih (by omega), H n (by omega), H j hj]
/-- whether a note is so in a run -/
def kSoB (S : kRst) (p k v o : Int32) : Bool := if k = 0 then decide ((if 0 ≤ S.1 (Int32.toNatClampNeg p) - v then S.1 (Int32.toNatClampNeg p) - v else 0 - (S.1 (Int32.toNatClampNeg p) - v)) ≤ o) else decide (S.2.2.1 (Int32.toNatClampNeg p) = v)
theorem kSoH {S : kRst} {p k v o a x r v1 o1 k1 : Int32} {j : Nat} (hj : j < 2 ^ 31) (hp : p = nI j) (hk : k1 = k) (hk0 : k1 = 0) (ea : a = if 0 ≤ x then x else 0 - x) (ex : x = r - v1) (hr : r = S.1 j) (hv : v1 = v) (ho : o1 = o) : (kSoB S p k v o = true ↔ a ≤ o1) := by
  unfold kSoB
  rw [if_pos (hk.symm.trans hk0), hp, nI_clamp hj, decide_eq_true_iff, ea, ex, hr, hv, ho]
theorem kSoP {S : kRst} {p k v o r v1 k1 : Int32} {j : Nat} (hj : j < 2 ^ 31) (hp : p = nI j) (hk : k1 = k) (hk0 : ¬ k1 = 0) (hr : r = S.2.2.1 j) (hv : v1 = v) : (kSoB S p k v o = true ↔ r = v1) := by
  unfold kSoB
  rw [if_neg (fun z => hk0 (hk.trans z)), hp, nI_clamp hj, decide_eq_true_iff, hr, hv]
/-- whether the notes of an hour are so -/
def kAgB (S : kRst) (cb : Nat → Bool) (q0 q1 q2 q3 q4 : Nat → Int32) (h : Int32) : Nat → Bool
  | 0 => true
  | n + 1 => kAgB S cb q0 q1 q2 q3 q4 h n && (!(decide (q1 n = h) && cb n) || kSoB S (q0 n) (q2 n) (q3 n) (q4 n))
theorem kAg_t {S : kRst} {cb : Nat → Bool} {q0 q1 q2 q3 q4 : Nat → Int32} {h : Int32} {n : Nat} (h1 : q1 n = h → cb n = true → kSoB S (q0 n) (q2 n) (q3 n) (q4 n) = true) (h2 : kAgB S cb q0 q1 q2 q3 q4 h n = true) : kAgB S cb q0 q1 q2 q3 q4 h (n + 1) = true := by
  show (kAgB S cb q0 q1 q2 q3 q4 h n && (!(decide (q1 n = h) && cb n) || kSoB S (q0 n) (q2 n) (q3 n) (q4 n))) = true
  rw [h2, Bool.true_and]
  by_cases z : q1 n = h
  · cases y : cb n with
    | true => rw [h1 z y, Bool.or_true]
    | false => rw [Bool.and_false]; rfl
  · rw [decide_eq_false z, Bool.false_and]; rfl
theorem kAg_f {S : kRst} {cb : Nat → Bool} {q0 q1 q2 q3 q4 : Nat → Int32} {h : Int32} {n : Nat} (h1 : q1 n = h) (hc : cb n = true) (h2 : ¬ kSoB S (q0 n) (q2 n) (q3 n) (q4 n) = true) : ¬ kAgB S cb q0 q1 q2 q3 q4 h (n + 1) = true := by
  show ¬ (kAgB S cb q0 q1 q2 q3 q4 h n && (!(decide (q1 n = h) && cb n) || kSoB S (q0 n) (q2 n) (q3 n) (q4 n))) = true
  rw [decide_eq_true h1, hc, Bool.eq_false_iff.mpr h2]
  simp
theorem kAg_m {S : kRst} {cb : Nat → Bool} {q0 q1 q2 q3 q4 : Nat → Int32} {h : Int32} {a : Nat} : ∀ n : Nat, a ≤ n → kAgB S cb q0 q1 q2 q3 q4 h n = true → kAgB S cb q0 q1 q2 q3 q4 h a = true := by
  intro n
  induction n with
  | zero => intro h1 h2; rw [show a = 0 by omega]; rfl
  | succ n ih =>
    intro h1 h2
    by_cases z : a = n + 1
    · rw [z]; exact h2
    · have h3 : (kAgB S cb q0 q1 q2 q3 q4 h n && (!(decide (q1 n = h) && cb n) || kSoB S (q0 n) (q2 n) (q3 n) (q4 n))) = true := h2
      rw [Bool.and_eq_true] at h3
      exact ih (by omega) h3.1
theorem kAg_c {S : kRst} {cb cb2 : Nat → Bool} {q0 q1 q2 q3 q4 r0 r1 r2 r3 r4 : Nat → Int32} {h : Int32} : ∀ n : Nat, (∀ k : Nat, k < n → cb k = cb2 k ∧ q0 k = r0 k ∧ q1 k = r1 k ∧ q2 k = r2 k ∧ q3 k = r3 k ∧ q4 k = r4 k) → kAgB S cb q0 q1 q2 q3 q4 h n = kAgB S cb2 r0 r1 r2 r3 r4 h n := by
  intro n
  induction n with
  | zero => intro _; rfl
  | succ n ih =>
    intro H
    obtain ⟨e0, e1, e2, e3, e4, e5⟩ := H n (by omega)
    show (kAgB S cb q0 q1 q2 q3 q4 h n && (!(decide (q1 n = h) && cb n) || kSoB S (q0 n) (q2 n) (q3 n) (q4 n))) = (kAgB S cb2 r0 r1 r2 r3 r4 h n && (!(decide (r1 n = h) && cb2 n) || kSoB S (r0 n) (r2 n) (r3 n) (r4 n)))
    rw [ih (fun k hk => H k (by omega)), e0, e1, e2, e3, e4, e5]
/-- whether the notes of the first hours are so -/
def kNtB (E : kEn) (S : kRst) (cb : Nat → Bool) (q0 q1 q2 q3 q4 : Nat → Int32) (kn : Nat) : Nat → Bool
  | 0 => true
  | n + 1 => kNtB E S cb q0 q1 q2 q3 q4 kn n && kAgB (kIt E n S) cb q0 q1 q2 q3 q4 (nI n) kn
theorem kNt_t {E : kEn} {S : kRst} {cb : Nat → Bool} {q0 q1 q2 q3 q4 : Nat → Int32} {kn n : Nat} (h : kNtB E S cb q0 q1 q2 q3 q4 kn n = true) (h2 : kAgB (kIt E n S) cb q0 q1 q2 q3 q4 (nI n) kn = true) : kNtB E S cb q0 q1 q2 q3 q4 kn (n + 1) = true := by
  show (kNtB E S cb q0 q1 q2 q3 q4 kn n && kAgB (kIt E n S) cb q0 q1 q2 q3 q4 (nI n) kn) = true
  rw [h, h2]; rfl
theorem kNt_f {E : kEn} {S : kRst} {cb : Nat → Bool} {q0 q1 q2 q3 q4 : Nat → Int32} {kn n : Nat} (h2 : ¬ kAgB (kIt E n S) cb q0 q1 q2 q3 q4 (nI n) kn = true) : ¬ kNtB E S cb q0 q1 q2 q3 q4 kn (n + 1) = true := by
  show ¬ (kNtB E S cb q0 q1 q2 q3 q4 kn n && kAgB (kIt E n S) cb q0 q1 q2 q3 q4 (nI n) kn) = true
  rw [Bool.and_eq_true]
  exact fun z => h2 z.2
theorem kNt_m {E : kEn} {S : kRst} {cb : Nat → Bool} {q0 q1 q2 q3 q4 : Nat → Int32} {kn a : Nat} : ∀ n : Nat, a ≤ n → kNtB E S cb q0 q1 q2 q3 q4 kn n = true → kNtB E S cb q0 q1 q2 q3 q4 kn a = true := by
  intro n
  induction n with
  | zero => intro h1 h2; rw [show a = 0 by omega]; rfl
  | succ n ih =>
    intro h1 h2
    by_cases z : a = n + 1
    · rw [z]; exact h2
    · have h3 : (kNtB E S cb q0 q1 q2 q3 q4 kn n && kAgB (kIt E n S) cb q0 q1 q2 q3 q4 (nI n) kn) = true := h2
      rw [Bool.and_eq_true] at h3
      exact ih (by omega) h3.1
theorem kNt_c {E : kEn} {S : kRst} {cb cb2 : Nat → Bool} {q0 q1 q2 q3 q4 r0 r1 r2 r3 r4 : Nat → Int32} {kn : Nat} (H : ∀ k : Nat, k < kn → cb k = cb2 k ∧ q0 k = r0 k ∧ q1 k = r1 k ∧ q2 k = r2 k ∧ q3 k = r3 k ∧ q4 k = r4 k) : ∀ n : Nat, kNtB E S cb q0 q1 q2 q3 q4 kn n = kNtB E S cb2 r0 r1 r2 r3 r4 kn n := by
  intro n
  induction n with
  | zero => rfl
  | succ n ih =>
    show (kNtB E S cb q0 q1 q2 q3 q4 kn n && kAgB (kIt E n S) cb q0 q1 q2 q3 q4 (nI n) kn) = (kNtB E S cb2 r0 r1 r2 r3 r4 kn n && kAgB (kIt E n S) cb2 r0 r1 r2 r3 r4 (nI n) kn)
    rw [ih, kAg_c kn H]
/-- of whom the notes are asked: of all, or of those who sat alone -/
def kAbN (w : Int32) (g q0 : Nat → Int32) (ks : Nat) : Nat → Bool := fun n => if w = 0 then true else kAlR g (Int32.toNatClampNeg (q0 n)) ks
def kFiA (kl ks kw : Nat) (g0 g1 g2 g3 g4 : Nat → Int32) (sv : Nat) (yL : Nat → List kTr) (q0 q1 q2 q3 q4 : Nat → Int32) (kn : Nat) (p0 : Int64) (p1 : Int32) : Int32 := nI (kBts (fun l => kNtB (kE0 ks kw g3 g4 sv (kPrs ks 0) (yL l)) (kS0 g0 g1 g2 p0) (kAbN p1 g2 q0 ks) q0 q1 q2 q3 q4 kn 49) kl)
/-- how many of the first ten bits -/
def kPcN (v : Nat) : Nat → Nat
  | 0 => 0
  | n + 1 => if v.testBit n then kPcN v n + 1 else kPcN v n
def kPc (v : Nat) : Nat := kPcN v 10
theorem kPcN_le (v : Nat) : ∀ n : Nat, kPcN v n ≤ n := by
  intro n
  induction n with
  | zero => exact Nat.le_refl 0
  | succ n ih =>
    unfold kPcN
    split <;> omega
theorem kPc_le (v : Nat) : kPc v ≤ 10 := kPcN_le v 10
theorem kPcN_s {v w : Nat} (h : ∀ i : Nat, v.testBit i = true → w.testBit i = true) : ∀ n : Nat, kPcN v n ≤ kPcN w n := by
  intro n
  induction n with
  | zero => exact Nat.le_refl 0
  | succ n ih =>
    unfold kPcN
    by_cases z : v.testBit n = true
    · rw [if_pos z, if_pos (h n z)]; omega
    · rw [if_neg z]
      split <;> omega
theorem kPcP : ∀ v : Fin 1024, v.val = 0 ∨ 1 ≤ kPc v.val := by decide +kernel
theorem kPc_pos {v : Nat} (h : v < 1024) (h0 : 1 ≤ v) : 1 ≤ kPc v := (kPcP ⟨v, h⟩).resolve_left (by show ¬ v = 0; omega)
theorem kPc_0 : kPc 0 = 0 := by decide
/-- the lower of two sets -/
def kLwI (a b : Int32) : Int32 := if a &&& (a ^^^ b) &&& -(a ^^^ b) = 0 then 0 else 1
def kLw (a b : Nat) : Bool := decide (¬ kLwI (nI a) (nI b) = 0)
def kLkC (P : Nat → Bool) (s n : Nat) (o : Option Nat) : Bool := P n && decide (kPc n = s) && (match o with | none => true | some b => kLw n b)
/-- the best set of a size, so far -/
def kLkS (P : Nat → Bool) (s : Nat) : Nat → Option Nat
  | 0 => none
  | n + 1 => if kLkC P s n (kLkS P s n) then some n else kLkS P s n
theorem kLkS_t {P : Nat → Bool} {s n : Nat} (h : kLkC P s n (kLkS P s n) = true) : kLkS P s (n + 1) = some n := if_pos h
theorem kLkS_f {P : Nat → Bool} {s n : Nat} (h : ¬ kLkC P s n (kLkS P s n) = true) : kLkS P s (n + 1) = kLkS P s n := if_neg h
theorem kLkC_off {P : Nat → Bool} {s n : Nat} {o : Option Nat} (h : P n = false ∨ ¬ kPc n = s) : ¬ kLkC P s n o = true := by
  unfold kLkC
  rcases h with z | z
  · rw [z, Bool.false_and, Bool.false_and]; decide
  · rw [decide_eq_false z, Bool.and_false, Bool.false_and]; decide
theorem kLkS_pc {P : Nat → Bool} {s b : Nat} : ∀ n : Nat, kLkS P s n = some b → kPc b = s ∧ b < n := by
  intro n
  induction n with
  | zero => intro h; cases h
  | succ n ih =>
    intro h
    by_cases c : kLkC P s n (kLkS P s n) = true
    · rw [kLkS_t c] at h
      have e := Option.some.inj h
      unfold kLkC at c
      rw [Bool.and_eq_true, Bool.and_eq_true] at c
      rw [← e]
      exact ⟨of_decide_eq_true c.1.2, by omega⟩
    · rw [kLkS_f c] at h
      have := ih h
      exact ⟨this.1, by omega⟩
/-- the best of the largest size that has one -/
def kLkO (P : Nat → Bool) (n : Nat) : Nat → Nat
  | 0 => 0
  | s + 1 => (kLkS P (s + 1) n).getD (kLkO P n s)
theorem kLkO_pc (P : Nat → Bool) (n : Nat) : ∀ S : Nat, kPc (kLkO P n S) ≤ S := by
  intro S
  induction S with
  | zero => show kPc 0 ≤ 0; rw [kPc_0]; omega
  | succ S ih =>
    show kPc ((kLkS P (S + 1) n).getD (kLkO P n S)) ≤ S + 1
    cases hs : kLkS P (S + 1) n with
    | none => show kPc (kLkO P n S) ≤ S + 1; omega
    | some b => show kPc b ≤ S + 1; rw [(kLkS_pc n hs).1]; omega
theorem kLkO_f {P : Nat → Bool} {n : Nat} (hP : P n = false) : ∀ S : Nat, kLkO P (n + 1) S = kLkO P n S := by
  intro S
  induction S with
  | zero => rfl
  | succ S ih =>
    show (kLkS P (S + 1) (n + 1)).getD (kLkO P (n + 1) S) = (kLkS P (S + 1) n).getD (kLkO P n S)
    rw [kLkS_f (kLkC_off (Or.inl hP)), ih]
theorem kLkO_t {P : Nat → Bool} {n : Nat} (hP : P n = true) (ht : 1 ≤ kPc n) : ∀ S : Nat, kLkO P (n + 1) S = if kPc n ≤ S then (if kPc (kLkO P n S) < kPc n ∨ (kPc n = kPc (kLkO P n S) ∧ kLw n (kLkO P n S) = true) then n else kLkO P n S) else kLkO P n S := by
  intro S
  induction S with
  | zero => rw [if_neg (by omega)]; rfl
  | succ S ih =>
    have hO : kLkO P n (S + 1) = (kLkS P (S + 1) n).getD (kLkO P n S) := rfl
    show (kLkS P (S + 1) (n + 1)).getD (kLkO P (n + 1) S) = _
    by_cases h1 : kPc n = S + 1
    · rw [if_pos (by omega)]
      cases hs : kLkS P (S + 1) n with
      | none =>
        have hc : kLkC P (S + 1) n (kLkS P (S + 1) n) = true := by
          rw [hs]; unfold kLkC; rw [hP, decide_eq_true h1]; rfl
        have hq := kLkO_pc P n S
        rw [kLkS_t hc, hO, hs]
        show n = if kPc (kLkO P n S) < kPc n ∨ (kPc n = kPc (kLkO P n S) ∧ kLw n (kLkO P n S) = true) then n else kLkO P n S
        rw [if_pos (Or.inl (by omega))]
      | some b =>
        have hb := (kLkS_pc n hs).1
        rw [hO, hs]
        show (kLkS P (S + 1) (n + 1)).getD (kLkO P (n + 1) S) = if kPc b < kPc n ∨ (kPc n = kPc b ∧ kLw n b = true) then n else b
        by_cases hl : kLw n b = true
        · have hc : kLkC P (S + 1) n (kLkS P (S + 1) n) = true := by
            rw [hs]; unfold kLkC; rw [hP, decide_eq_true h1]; exact hl
          rw [kLkS_t hc, if_pos (Or.inr ⟨by omega, hl⟩)]; rfl
        · have hc : ¬ kLkC P (S + 1) n (kLkS P (S + 1) n) = true := by
            rw [hs]; unfold kLkC; rw [hP, decide_eq_true h1]; exact hl
          rw [kLkS_f hc, hs, if_neg (fun z => z.elim (fun y => by omega) (fun y => hl y.2))]; rfl
    · rw [kLkS_f (kLkC_off (Or.inr h1)), hO]
      cases hs : kLkS P (S + 1) n with
      | none =>
        show kLkO P (n + 1) S = if kPc n ≤ S + 1 then (if kPc (kLkO P n S) < kPc n ∨ (kPc n = kPc (kLkO P n S) ∧ kLw n (kLkO P n S) = true) then n else kLkO P n S) else kLkO P n S
        rw [ih]
        by_cases h2 : kPc n ≤ S
        · rw [if_pos h2, if_pos (show kPc n ≤ S + 1 by omega)]
        · rw [if_neg h2, if_neg (show ¬ kPc n ≤ S + 1 by omega)]
      | some b =>
        have hb := (kLkS_pc n hs).1
        show b = if kPc n ≤ S + 1 then (if kPc b < kPc n ∨ (kPc n = kPc b ∧ kLw n b = true) then n else b) else b
        by_cases h2 : kPc n ≤ S + 1
        · rw [if_pos h2, if_neg (fun z => z.elim (fun y => by omega) (fun y => by have := y.1; omega))]
        · rw [if_neg h2]
theorem kLkO_1 (P : Nat → Bool) : ∀ S : Nat, kLkO P 1 S = 0 := by
  intro S
  induction S with
  | zero => rfl
  | succ S ih =>
    show (kLkS P (S + 1) 1).getD (kLkO P 1 S) = 0
    rw [kLkS_f (n := 0) (kLkC_off (Or.inr (by rw [kPc_0]; omega))), ih]
    rfl
/-- the best as one pass finds it -/
def kLkR (P : Nat → Bool) : Nat → Nat
  | 0 => 0
  | n + 1 => if decide (1 ≤ n) && P n && (decide (kPc (kLkR P n) < kPc n) || (decide (kPc n = kPc (kLkR P n)) && kLw n (kLkR P n))) then n else kLkR P n
theorem kLkR_f {P : Nat → Bool} {n : Nat} (h : ¬ (P n = true ∧ (kPc (kLkR P n) < kPc n ∨ (kPc n = kPc (kLkR P n) ∧ kLw n (kLkR P n) = true)))) : kLkR P (n + 1) = kLkR P n := if_neg (fun z => h (by
  rw [Bool.and_eq_true, Bool.and_eq_true, Bool.or_eq_true, Bool.and_eq_true, decide_eq_true_iff, decide_eq_true_iff, decide_eq_true_iff] at z
  exact ⟨z.1.2, z.2⟩))
theorem kLkR_t {P : Nat → Bool} {n : Nat} (h1 : 1 ≤ n) (h : P n = true ∧ (kPc (kLkR P n) < kPc n ∨ (kPc n = kPc (kLkR P n) ∧ kLw n (kLkR P n) = true))) : kLkR P (n + 1) = n := if_pos (by
  rw [Bool.and_eq_true, Bool.and_eq_true, Bool.or_eq_true, Bool.and_eq_true, decide_eq_true_iff, decide_eq_true_iff, decide_eq_true_iff]
  exact ⟨⟨h1, h.1⟩, h.2⟩)
theorem kLk_eq {P : Nat → Bool} {S : Nat} : ∀ n : Nat, 1 ≤ n → n ≤ 1024 → (∀ k : Nat, k < n → P k = true → kPc k ≤ S) → kLkR P n = kLkO P n S := by
  intro n
  induction n with
  | zero => intro h; omega
  | succ n ih =>
    intro _ hN H
    by_cases h0 : n = 0
    · subst h0
      rw [kLkO_1]
      rfl
    · have e := ih (by omega) (by omega) (fun k hk => H k (by omega))
      cases hP : P n with
      | false =>
        rw [kLkO_f hP, kLkR_f (fun z => by rw [hP] at z; exact absurd z.1 (by decide))]
        exact e
      | true =>
        rw [kLkO_t hP (kPc_pos (by omega) (by omega)), if_pos (H n (by omega) hP), ← e]
        by_cases c : kPc (kLkR P n) < kPc n ∨ (kPc n = kPc (kLkR P n) ∧ kLw n (kLkR P n) = true)
        · rw [if_pos c, kLkR_t (by omega) ⟨hP, c⟩]
        · rw [if_neg c, kLkR_f (fun z => c z.2)]
theorem kLkO_up {P : Nat → Bool} {a S : Nat} : ∀ n : Nat, a ≤ n → (∀ k : Nat, a ≤ k → k < n → P k = false) → kLkO P n S = kLkO P a S := by
  intro n
  induction n with
  | zero => intro h _; rw [show a = 0 by omega]
  | succ n ih =>
    intro h H
    by_cases z : a = n + 1
    · rw [z]
    · rw [kLkO_f (H n (by omega) (by omega)), ih (by omega) (fun k h1 h2 => H k h1 (by omega))]
/-- a set is part of another -/
theorem kSub_b {n sv : Nat} (hn : n < 1024) (hs : sv < 1024) (h : nI n &&& (nI sv ^^^ (-1)) = 0) : ∀ i : Nat, n.testBit i = true → sv.testBit i = true := fun i hi => by
  by_cases h32 : i < 32
  · have e1 : (nI n &&& (nI sv ^^^ (-1))).toBitVec = BitVec.ofNat 32 n &&& (BitVec.ofNat 32 sv ^^^ BitVec.allOnes 32) := rfl
    have e2 : (BitVec.ofNat 32 n &&& (BitVec.ofNat 32 sv ^^^ BitVec.allOnes 32)).getLsbD i = false := by
      rw [← e1, h]
      show (0#32).getLsbD i = false
      exact BitVec.getLsbD_zero
    rw [BitVec.getLsbD_and, BitVec.getLsbD_xor, BitVec.getLsbD_allOnes, BitVec.getLsbD_ofNat, BitVec.getLsbD_ofNat, decide_eq_true h32, Bool.true_and, Bool.true_and, hi, Bool.true_and, Bool.xor_true] at e2
    cases z : sv.testBit i with
    | true => rfl
    | false => rw [z] at e2; exact absurd e2 (by decide)
  · rw [Nat.testBit_lt_two_pow (Nat.lt_of_lt_of_le hn (show 1024 ≤ 2 ^ i from Nat.le_trans (by decide : 1024 ≤ 2 ^ 10) (Nat.pow_le_pow_right (by decide) (by omega))))] at hi
    exact absurd hi (by decide)
theorem kSub_le {n sv : Nat} (h : ∀ i : Nat, n.testBit i = true → sv.testBit i = true) : n ≤ sv := by
  have e : n &&& sv = n := Nat.eq_of_testBit_eq (fun i => by
    rw [Nat.testBit_and]
    cases z : n.testBit i with
    | true => rw [h i z]; rfl
    | false => rfl)
  rw [← e]
  exact Nat.and_le_right
/-- those, not sent, who hold on -/
def kHoC (E : kEn) (S : kRst) : Nat → Bool := fun j => kFr E j && decide (50 ≤ S.1 j)
theorem kHoC_t {E : kEn} {S : kRst} {j : Nat} : kHoC E S j = true ↔ kFr E j = true ∧ 50 ≤ S.1 j := by
  unfold kHoC
  rw [Bool.and_eq_true, decide_eq_true_iff]
def kHol (ks kw : Nat) (g0 g1 g2 g3 g4 : Nat → Int32) (sv : Nat) (t : List kTr) (p1 : Int64) (ab : Int32) : Int32 := nI (kBts (kHoC (kE0 ks kw g3 g4 sv (kPrs ks ab) t) (kIt (kE0 ks kw g3 g4 sv (kPrs ks ab) t) 48 (kS0 g0 g1 g2 p1))) ks)
def kLkP (ks kw : Nat) (g0 g1 g2 g3 g4 : Nat → Int32) (sv : Nat) (t : List kTr) (p1 : Int64) : Nat → Bool := fun n => decide (nI n &&& (nI sv ^^^ (-1)) = 0) && decide (kHol ks kw g0 g1 g2 g3 g4 sv t p1 (nI sv &&& (nI n ^^^ (-1))) = kHol ks kw g0 g1 g2 g3 g4 sv t p1 (nI sv))
theorem kLkP_t {ks kw : Nat} {g0 g1 g2 g3 g4 : Nat → Int32} {sv : Nat} {t : List kTr} {p1 : Int64} {n : Nat} : kLkP ks kw g0 g1 g2 g3 g4 sv t p1 n = true ↔ nI n &&& (nI sv ^^^ (-1)) = 0 ∧ kHol ks kw g0 g1 g2 g3 g4 sv t p1 (nI sv &&& (nI n ^^^ (-1))) = kHol ks kw g0 g1 g2 g3 g4 sv t p1 (nI sv) := by
  unfold kLkP
  rw [Bool.and_eq_true, decide_eq_true_iff, decide_eq_true_iff]
theorem kLkP_f {ks kw : Nat} {g0 g1 g2 g3 g4 : Nat → Int32} {sv : Nat} {t : List kTr} {p1 : Int64} {n : Nat} (h : ¬ (nI n &&& (nI sv ^^^ (-1)) = 0 ∧ kHol ks kw g0 g1 g2 g3 g4 sv t p1 (nI sv &&& (nI n ^^^ (-1))) = kHol ks kw g0 g1 g2 g3 g4 sv t p1 (nI sv))) : kLkP ks kw g0 g1 g2 g3 g4 sv t p1 n = false := by
  cases z : kLkP ks kw g0 g1 g2 g3 g4 sv t p1 n with
  | false => rfl
  | true => exact absurd (kLkP_t.mp z) h
def kLokA (kl ks kw : Nat) (g0 g1 g2 g3 g4 : Nat → Int32) (sv : Nat) (yL : Nat → List kTr) (p0 : Int32) (p1 : Int64) : Int32 := if kPn p0 kl = 0 then -1 else nI (kLkO (kLkP ks kw g0 g1 g2 g3 g4 sv (yL (Int32.toNatClampNeg p0)) p1) (sv + 1) (kPc sv))
