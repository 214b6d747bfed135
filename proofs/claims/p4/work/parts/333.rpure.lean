/-- a byte as the reference keeps it -/
def kSg (v : Nat) : Int32 := if v < 128 then nI v else nI v - 256
theorem kSg32F : ∀ v : Fin 256, (kSg v.val = 32 ↔ v.val = 32) := by decide +kernel
theorem kSgAF : ∀ v : Fin 256, kSg v.val &&& 255 = nI v.val := by decide +kernel
theorem kSgLF : ∀ v : Fin 256, (¬ kSg v.val < 48 ∧ ¬ 57 < kSg v.val) ↔ (48 ≤ v.val ∧ v.val ≤ 57) := by decide +kernel
theorem kSgDF : ∀ v : Fin 256, (48 ≤ v.val ∧ v.val ≤ 57) → kSg v.val = nI v.val := by decide +kernel
theorem kSg32 {v : Nat} (h : v < 256) : (kSg v = 32 ↔ v = 32) := kSg32F ⟨v, h⟩
theorem kSgA {v : Nat} (h : v < 256) : kSg v &&& 255 = nI v := kSgAF ⟨v, h⟩
theorem kSgL {v : Nat} (h : v < 256) : (¬ kSg v < 48 ∧ ¬ 57 < kSg v) ↔ (48 ≤ v ∧ v ≤ 57) := kSgLF ⟨v, h⟩
theorem kSgD {v : Nat} (h : v < 256) (hd : 48 ≤ v ∧ v ≤ 57) : kSg v = nI v := kSgDF ⟨v, h⟩ hd
/-- what the reference's look answers -/
def kLr (ch : Nat) : Int32 := if ch = 0 then -1 else nI ch
theorem kLr_p {ch : Nat} (h : 1 ≤ ch) : kLr ch = nI ch := if_neg (by omega)
theorem kLr_e {r : Int32} {ch k : Nat} (h : r = kLr ch) (hc : ch < 256) (hk : 0 < k ∧ k < 256) (e : r = nI k) : ch = k := by
  by_cases z : ch = 0
  · exfalso
    rw [h, z] at e
    exact kNeM (n := k) (by omega) e.symm
  · rw [h, kLr_p (by omega)] at e
    exact keq (a := ch) (b := k) (by omega) (by omega) e
theorem kLr_n {r : Int32} {ch k : Nat} (h : r = kLr ch) (_hc : ch < 256) (hk : 0 < k ∧ k < 256) (e : ¬ r = nI k) : ¬ ch = k := fun z => e (by rw [h, z, kLr_p (by omega)])
theorem kLr_m0 {r : Int32} {ch : Nat} (h : r = kLr ch) (hc : ch < 256) (e : r = -1) : ch = 0 := by
  by_cases z : ch = 0
  · exact z
  · exfalso
    rw [h, kLr_p (by omega)] at e
    exact kNeM (n := ch) (by omega) e
theorem kLr_m1 {r : Int32} {ch : Nat} (h : r = kLr ch) (_hc : ch < 256) (e : ¬ r = -1) : ¬ ch = 0 := fun z => e (by rw [h, z]; rfl)
theorem kLr_j {r : Int32} {ch j : Nat} (h : r = kLr ch) (hc : ch < 256) (hj : j < 128) (e : r = nI j) : r = nI ch ∧ ch < 128 := by
  by_cases z : ch = 0
  · exfalso
    rw [h, z] at e
    exact kNeM (n := j) (by omega) e.symm
  · rw [h, kLr_p (by omega)] at e
    have := keq (a := ch) (b := j) (by omega) (by omega) e
    exact ⟨by rw [h, kLr_p (by omega)], by omega⟩
theorem kAt_in {b : Nat → Nat} {n p : Nat} (h : p < n) : kAt b n p = b p := if_pos h
theorem kFd_none {g : Nat → Int32} {c : Int32} (h : ∀ j, ¬ g j = c) : ∀ f j, kFd g c f j = j + f := by
  intro f
  induction f with
  | zero => intro j; rfl
  | succ f ih => intro j; rw [kFd_s (h j), ih]; omega
theorem kIx_lr {g : Nat → Int32} {n : Nat} {r : Int32} {ch : Nat} (hg : ∀ k : Nat, ∃ v : Nat, v < 128 ∧ g k = nI v) (hz : kIx g n (nI 0) = n) (h : r = kLr ch) : kIx g n r = kIx g n (nI ch) := by
  by_cases z : ch = 0
  · rw [z, hz, h, z]
    show kFd g (-1) n 0 = n
    rw [kFd_none (fun j e => by obtain ⟨v, hv, e2⟩ := hg j; exact kNeM (n := v) (by omega) (e2.symm.trans e))]
    omega
  · rw [h, kLr_p (by omega)]
/-- what a reading method of the reference says of its reading -/
def kPM (X : kRes) (en a : Nat) (dp : Int32) (xo : Bool) (a1 : Nat) (xl : List Int32) (xf xd : Int32) : Prop := X = (xo, a1, xl) ∧ a1 ≤ en ∧ (xo = true → xf = -1 ∧ xd = dp ∧ a + xl.length ≤ a1 ∧ a < a1) ∧ (xo = false → xf = nI a1 ∧ xl = [])
theorem kPM_f {X : kRes} {en a P : Nat} {dp xd : Int32} (h : X = (false, P, [])) (hP : P ≤ en) : kPM X en a dp false P [] (nI P) xd := ⟨h, hP, fun z => absurd z (by decide), fun _ => ⟨rfl, rfl⟩⟩
theorem kPM_t {X : kRes} {en a P : Nat} {dp : Int32} {xl : List Int32} {A : Nat → kRes} (hX : X = A a) (hg : kGood en A) (hp : a ≤ en) (h : X = (true, P, xl)) : kPM X en a dp true P xl (-1) dp := by
  have h1 := hg a hp
  rw [← hX, h] at h1
  exact ⟨h, h1.1, fun _ => ⟨rfl, rfl, (h1.2 rfl).1, (h1.2 rfl).2⟩, fun z => absurd z (by decide)⟩
/-- a sum and a comparison behind it -/
def kCmpS (b : Nat → Nat) (n : Nat) (g : Nat → Int32) (m e p : Nat) : kRes := kTh (kSumD b n g m e p) (fun q l => kCmp b n g m e q l)
theorem kCmpS_good {b : Nat → Nat} {n : Nat} {g : Nat → Int32} {m : Nat} (hg : kIx g m (nI 0) = m) (e : Nat) : kGood n (kCmpS b n g m e) := by
  intro p hp
  have h3 := kSumD_good (b := b) hg e p hp
  exact kTh_good h3.1 (fun z => kCmp_good hg _ h3.1 (by have := (h3.2 z).1; omega))
theorem kRf42 (a b : Int32) : kClm (a.toInt64 * b.toInt64).toInt = kJn (nI 42) a b := by rw [kL_mul]; rfl
theorem kRf43 (a b : Int32) : kClm (a.toInt64 + b.toInt64).toInt = kJn (nI 43) a b := by rw [kL_add]; rfl
theorem kRf45 (a b : Int32) : kClm (a.toInt64 - b.toInt64).toInt = kJn (nI 45) a b := by rw [kL_sub]; rfl
theorem kLeq {w : Int64} {x : Int32} (e : x = lg_cmp w 0) (c : x = 0) : w = 0 := by
  rw [e] at c
  unfold lg_cmp at c
  by_cases h1 : w > 0
  · rw [if_pos h1] at c; exact absurd c (by decide)
  · rw [if_neg h1] at c
    by_cases h2 : w = 0
    · exact h2
    · rw [if_neg h2] at c; exact absurd c (by decide)
theorem kZ64 {b : Int32} (h : b.toInt64 = 0) : b = 0 := Int32.toInt_inj.mp (by
  have h1 := Int32.toInt_toInt64 b
  rw [h] at h1
  exact h1.symm)
theorem kRf47z {a b : Int32} (hb : b.toInt64 = 0) : kClm (0 : Int64).toInt = kJn (nI 47) a b := by
  have h := kZ64 hb
  subst h
  rfl
theorem kRf47 {a b : Int32} (ha : kBd a) (hb : ¬ b.toInt64 = 0) : kClm (a.toInt64 / b.toInt64).toInt = kJn (nI 47) a b := by
  have hb0 : ¬ b = 0 := fun z => hb (by rw [z]; rfl)
  have h1 : (a.toInt64 / b.toInt64).toInt = (a / b).toInt := by
    have h2 := kL32 a
    have h3 := kL32 b
    have hd : (a.toInt.tdiv b.toInt).natAbs ≤ a.toInt.natAbs := by rw [Int.natAbs_tdiv]; exact Nat.div_le_self _ _
    unfold kBd at ha
    rw [Int64.toInt_div, Int32.toInt_toInt64, Int32.toInt_toInt64, Int32.toInt_div]
    rw [kBm (by omega) (by omega)]
    exact (Int.bmod_eq_of_le (by omega) (by omega)).symm
  show kClm _ = kClm (if b = 0 then 0 else (a / b).toInt)
  rw [if_neg hb0, h1]
theorem kAnd_l {a b : Int32} (h : a = 0) (hb : b = 0 ∨ b = 1) : (0 : Int32) = kJn (nI 38) a b := by subst h; rcases hb with rfl | rfl <;> decide
theorem kAnd_r {a b : Int32} (h : b = 0) (ha : a = 0 ∨ a = 1) : (0 : Int32) = kJn (nI 38) a b := by subst h; rcases ha with rfl | rfl <;> decide
theorem kAnd_1 {a b : Int32} (h1 : ¬ a = 0) (h2 : ¬ b = 0) (ha : a = 0 ∨ a = 1) (hb : b = 0 ∨ b = 1) : (1 : Int32) = kJn (nI 38) a b := by
  rcases ha with rfl | rfl
  · exact absurd rfl h1
  · rcases hb with rfl | rfl
    · exact absurd rfl h2
    · decide
theorem kOr_0 {a b : Int32} (h1 : a = 0) (h2 : b = 0) : (0 : Int32) = kJn (nI 124) a b := by subst h1; subst h2; decide
theorem kOr_l {a b : Int32} (h1 : ¬ a = 0) (ha : a = 0 ∨ a = 1) (hb : b = 0 ∨ b = 1) : (1 : Int32) = kJn (nI 124) a b := by
  rcases ha with rfl | rfl
  · exact absurd rfl h1
  · rcases hb with rfl | rfl <;> decide
theorem kOr_r {a b : Int32} (h1 : a = 0) (h2 : ¬ b = 0) (hb : b = 0 ∨ b = 1) : (1 : Int32) = kJn (nI 124) a b := by
  subst h1
  rcases hb with rfl | rfl
  · exact absurd rfl h2
  · decide
theorem kC61t {a b : Int32} {ch : Nat} (h : ch = 61) (c : a = b) : (1 : Int32) = kJn (nI ch) a b := by subst h; show _ = kClm (if a = b then 1 else 0); rw [if_pos c]; decide
theorem kC61f {a b : Int32} {ch : Nat} (h : ch = 61) (c : ¬ a = b) : (0 : Int32) = kJn (nI ch) a b := by subst h; show _ = kClm (if a = b then 1 else 0); rw [if_neg c]; decide
theorem kC60t {a b : Int32} {ch : Nat} (h : ch = 60) (c : ¬ b ≤ a) : (1 : Int32) = kJn (nI ch) a b := by subst h; show _ = kClm (if a < b then 1 else 0); rw [if_pos (Int32.not_le.mp c)]; decide
theorem kC60f {a b : Int32} {ch : Nat} (h : ch = 60) (c : b ≤ a) : (0 : Int32) = kJn (nI ch) a b := by subst h; show _ = kClm (if a < b then 1 else 0); rw [if_neg (Int32.not_lt.mpr c)]; decide
theorem kC62t {a b : Int32} {ch : Nat} (h : ch = 62) (c : ¬ a ≤ b) : (1 : Int32) = kJn (nI ch) a b := by subst h; show _ = kClm (if b < a then 1 else 0); rw [if_pos (Int32.not_le.mp c)]; decide
theorem kC62f {a b : Int32} {ch : Nat} (h : ch = 62) (c : a ≤ b) : (0 : Int32) = kJn (nI ch) a b := by subst h; show _ = kClm (if b < a then 1 else 0); rw [if_neg (Int32.not_lt.mpr c)]; decide
theorem kValC {lt : Nat → Int32} {M H A s : Nat} {l m : List Int32} (h1 : kHn M H l) (h2 : kHn M A m) (hs : s < 128) (h33 : ¬ s = 33) : kVal lt (l ++ m ++ [nI (20000 + s)]) = kJn (nI s) (kVal lt l) (kVal lt m) := kValN h1 h2 hs h33
theorem kWit {p z1 z2 : Int64} {x : Int32} (e1 : z1 = if p < 1000000 then p else 1000000) (e2 : z2 = if z1 < (-1000000) then (-1000000) else z1) (e3 : x = Int64.toInt32 z2) : x = kClm p.toInt := by
  have hM : (1000000 : Int64).toInt = 1000000 := by decide
  have hm : (-1000000 : Int64).toInt = -1000000 := by decide
  by_cases h1 : p < 1000000
  · rw [if_pos h1] at e1
    subst e1
    have h11 := Int64.lt_iff_toInt_lt.mp h1
    rw [hM] at h11
    by_cases h2 : z1 < (-1000000)
    · rw [if_pos h2] at e2
      have h22 := Int64.lt_iff_toInt_lt.mp h2
      rw [hm] at h22
      rw [e3, e2, kClm_lo (by omega)]
      decide
    · rw [if_neg h2] at e2
      have h22 : ¬ z1.toInt < (-1000000 : Int64).toInt := fun z => h2 (Int64.lt_iff_toInt_lt.mpr z)
      rw [hm] at h22
      rw [e3, e2]
      exact kClm_in (by omega) (by omega)
  · rw [if_neg h1] at e1
    have h11 : ¬ p.toInt < (1000000 : Int64).toInt := fun z => h1 (Int64.lt_iff_toInt_lt.mpr z)
    rw [hM] at h11
    subst e1
    rw [if_neg (by decide)] at e2
    rw [e3, e2, kClm_hi (by omega)]
    decide
theorem kNe6 {d : Nat} (h : d < 6) : ¬ nI d = 6 := fun z => by
  have := keq (a := d) (b := 6) (by omega) (by omega) z
  omega
/-- the texts that the reference keeps: their bytes are those of a text without a fault, whose clauses are y -/
def kUn (mf2 mf3 : Nat → Int32) (off k : Nat) (g6 : Nat → Int32) (n6 : Nat) (g7 : Nat → Int32) (n7 : Nat) (y : Nat → List kTr) : Prop := ∀ j : Nat, j < k → ∃ (sb : Nat → Nat) (sn : Nat), mf3 (off + j) = nI sn ∧ sn ≤ 120 ∧ (∀ q : Nat, q < sn → mf2 (120 * (off + j) + q) = kSg (sb q)) ∧ (∀ q : Nat, sb q < 256) ∧ (∀ q : Nat, q < sn → 1 ≤ sb q) ∧ (kRead sb sn g6 n6 g7 n7).1 = true ∧ y j = kReadT sb sn g6 n6 g7 n7
/-- one text laid at a place -/
def kTxS (mf1 mf2 mf3 S2 S3 : Nat → Int32) (pl ml : Nat) : Prop := (∀ q : Nat, q < ml → S2 (120 * pl + q) = mf1 q) ∧ (∀ q : Nat, q < 120 * pl ∨ 120 * pl + 120 ≤ q → S2 q = mf2 q) ∧ S3 = upd mf3 pl (nI ml)
def kTxP (c : Nat) (mf1 mf2 mf3 S2 S3 : Nat → Int32) (kl ku ml : Nat) : Prop := (c = 0 ∧ S2 = mf2 ∧ S3 = mf3) ∨ (c = 1 ∧ kTxS mf1 mf2 mf3 S2 S3 kl ml) ∨ (c = 2 ∧ kTxS mf1 mf2 mf3 S2 S3 (6 + ku) ml)
def kUpT (y : Nat → List kTr) (k : Nat) (t : List kTr) : Nat → List kTr := fun j => if j = k then t else y j
theorem kUpT_n {y : Nat → List kTr} {k j : Nat} {t : List kTr} (h : ¬ j = k) : kUpT y k t j = y j := if_neg h
theorem kUpT_s {y : Nat → List kTr} {k : Nat} {t : List kTr} : kUpT y k t k = t := if_pos rfl
theorem kUn_far {mf1 mf2 mf3 S2 S3 : Nat → Int32} {off k pl ml : Nat} {g6 : Nat → Int32} {n6 : Nat} {g7 : Nat → Int32} {n7 : Nat} {y : Nat → List kTr} {t : List kTr} (h : kUn mf2 mf3 off k g6 n6 g7 n7 y) (hS : kTxS mf1 mf2 mf3 S2 S3 pl ml) (hp : ∀ j : Nat, j < k → ¬ off + j = pl) : kUn S2 S3 off k g6 n6 g7 n7 (kUpT y k t) := fun j hj => by
  obtain ⟨sb, sn, h1, h2, h3, h4, h5, h6, h7⟩ := h j hj
  have hne := hp j hj
  refine ⟨sb, sn, ?_, h2, ?_, h4, h5, h6, ?_⟩
  · rw [hS.2.2, pk_un hne]; exact h1
  · intro q hq
    rw [hS.2.1 _ (by omega)]
    exact h3 q hq
  · rw [kUpT_n (by omega)]; exact h7
theorem kUn_same {mf2 mf3 : Nat → Int32} {off k : Nat} {g6 : Nat → Int32} {n6 : Nat} {g7 : Nat → Int32} {n7 : Nat} {y : Nat → List kTr} {t : List kTr} (h : kUn mf2 mf3 off k g6 n6 g7 n7 y) : kUn mf2 mf3 off k g6 n6 g7 n7 (kUpT y k t) := fun j hj => by
  rw [kUpT_n (by omega)]
  exact h j hj
theorem kUn_add {mf1 mf2 mf3 S2 S3 : Nat → Int32} {off k ml : Nat} {g6 : Nat → Int32} {n6 : Nat} {g7 : Nat → Int32} {n7 : Nat} {y : Nat → List kTr} {bt : Nat → Nat} (h : kUn mf2 mf3 off k g6 n6 g7 n7 y) (hS : kTxS mf1 mf2 mf3 S2 S3 (off + k) ml) (hm : ml ≤ 120) (hb : ∀ j : Nat, mf1 j = kSg (bt j)) (h8 : ∀ j : Nat, bt j < 256) (h1 : ∀ j : Nat, j < ml → 1 ≤ bt j) (hr : (kRead bt ml g6 n6 g7 n7).1 = true) : kUn S2 S3 off (k + 1) g6 n6 g7 n7 (kUpT y k (kReadT bt ml g6 n6 g7 n7)) := fun j hj => by
  by_cases z : j = k
  · subst z
    refine ⟨bt, ml, by rw [hS.2.2, pk_us], hm, ?_, h8, h1, hr, kUpT_s⟩
    intro q hq
    rw [hS.1 q hq]
    exact hb q
  · have hf := kUn_far (t := kReadT bt ml g6 n6 g7 n7) h hS (fun j hj => by omega)
    exact hf j (by omega)
/-- what a told text becomes says what was read -/
def kTcS (c : Nat) (o0 o1 : Bool) (kl ku : Nat) : Prop := (c = 1 → o0 = true ∧ kl < 6) ∧ (c = 2 → o1 = true ∧ ku < 8)
theorem kTc_spec {s : Int32} {o0 o1 : Bool} {kl ku : Nat} : kTcS (kTc s o0 o1 kl ku) o0 o1 kl ku := by
  unfold kTcS kTc
  by_cases h0 : s = 0
  · rw [if_pos h0]
    by_cases h1 : kl < 6
    · rw [if_pos h1]
      cases o0 with
      | true => exact ⟨fun _ => ⟨rfl, h1⟩, fun z => absurd z (by decide)⟩
      | false => exact ⟨fun z => absurd z (by decide), fun z => absurd z (by decide)⟩
    · rw [if_neg h1]; exact ⟨fun z => absurd z (by decide), fun z => absurd z (by decide)⟩
  · rw [if_neg h0]
    by_cases h2 : s = 1
    · rw [if_pos h2]
      by_cases h1 : ku < 8
      · rw [if_pos h1]
        cases o1 with
        | true => exact ⟨fun z => absurd z (by decide), fun _ => ⟨rfl, h1⟩⟩
        | false => exact ⟨fun z => absurd z (by decide), fun z => absurd z (by decide)⟩
      · rw [if_neg h1]; exact ⟨fun z => absurd z (by decide), fun z => absurd z (by decide)⟩
    · rw [if_neg h2]; exact ⟨fun z => absurd z (by decide), fun z => absurd z (by decide)⟩
/-- the stored texts after a text -/
theorem kUn_txt {mf1 mf2 mf3 S2 S3 : Nat → Int32} {c kl ku ml : Nat} {bt : Nat → Nat} {xA : Nat → Int32} {nA : Nat} {xB : Nat → Int32} {nB : Nat} {xE : Nat → Int32} {nE : Nat} {xG : Nat → Int32} {nG : Nat} {yL yU : Nat → List kTr} (hl : kUn mf2 mf3 0 kl xA nA xB nB yL) (ht : kUn mf2 mf3 6 ku xE nE xG nG yU) (hP : kTxP c mf1 mf2 mf3 S2 S3 kl ku ml) (hm : ml ≤ 120) (hb : ∀ j : Nat, mf1 j = kSg (bt j)) (h8 : ∀ j : Nat, bt j < 256) (h1 : ∀ j : Nat, j < ml → 1 ≤ bt j) (hc : kTcS c (kRead bt ml xA nA xB nB).1 (kRead bt ml xE nE xG nG).1 kl ku) (hkl : kl ≤ 6) (_hku : ku ≤ 8) : kUn S2 S3 0 (kTcL c kl) xA nA xB nB (kUpT yL kl (kReadT bt ml xA nA xB nB)) ∧ kUn S2 S3 6 (kTcU c ku) xE nE xG nG (kUpT yU ku (kReadT bt ml xE nE xG nG)) := by
  rcases hP with ⟨rfl, e2, e3⟩ | ⟨rfl, hS⟩ | ⟨rfl, hS⟩
  · subst e2; subst e3
    exact ⟨kUn_same hl, kUn_same ht⟩
  · obtain ⟨hr, hk⟩ := hc.1 rfl
    exact ⟨kUn_add hl (by rw [Nat.zero_add]; exact hS) hm hb h8 h1 hr, kUn_far ht hS (fun j _ => by omega)⟩
  · obtain ⟨hr, _⟩ := hc.2 rfl
    exact ⟨kUn_far hl hS (fun j (hj : j < kl) => by omega), kUn_add ht hS hm hb h8 h1 hr⟩
