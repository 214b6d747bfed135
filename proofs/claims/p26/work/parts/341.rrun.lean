/-- what a run of the reference goes by -/
def kRE (E : kEn) (ps kw : Nat) (m22 m24 m25 : Nat → Int32) (th : Int32) : Prop := (E.1 = ps ∧ E.2.1 = kw) ∧ (∀ j : Nat, j < ps → E.2.2.1 j = m22 j) ∧ (∀ i : Nat, i < kw → E.2.2.2.1 i = m24 i) ∧ (∀ j : Nat, j < ps → E.2.2.2.2.1 j = if m25 j = 0 then 0 else 1) ∧ (∀ j : Nat, j < ps → (E.2.2.2.2.2.1 j = 0 ↔ kHas th (nI j) = 0)) ∧ (∀ j : Nat, E.2.2.2.2.1 j = 0 ∨ E.2.2.2.2.1 j = 1) ∧ (∀ i : Nat, i < kw → 0 ≤ (E.2.2.2.1 i).toInt ∧ (E.2.2.2.1 i).toInt ≤ 47)
theorem kFrA {E : kEn} {ps kw j : Nat} {m22 m24 m25 : Nat → Int32} {th : Int32} (h : kRE E ps kw m22 m24 m25 th) (hj : j < ps) (hh : kHas th (nI j) = 0) : ¬ kFr E j = true := fun z => (kFr_t.mp z).1 ((h.2.2.2.2.1 j hj).mpr hh)
theorem kFrB {E : kEn} {ps kw j : Nat} {m22 m24 m25 : Nat → Int32} {th : Int32} (h : kRE E ps kw m22 m24 m25 th) (hj : j < ps) (hx : ¬ m25 j = 0) : ¬ kFr E j = true := fun z => by
  have h1 := (kFr_t.mp z).2
  rw [h.2.2.2.1 j hj, if_neg hx] at h1
  exact absurd h1 (by decide)
theorem kFrC {E : kEn} {ps kw j : Nat} {m22 m24 m25 : Nat → Int32} {th : Int32} (h : kRE E ps kw m22 m24 m25 th) (hj : j < ps) (hh : ¬ kHas th (nI j) = 0) (hx : m25 j = 0) : kFr E j = true := kFr_t.mpr ⟨fun z => hh ((h.2.2.2.2.1 j hj).mp z), by rw [h.2.2.2.1 j hj, if_pos hx]⟩
theorem kHeldW {p y z : Int32} (ey : y = if p < 100 then p else 100) (ez : z = if (0 : Int32) < y then y else 0) : z = kWi p := by
  have h100 : (100 : Int32).toInt = 100 := by decide
  have h0 : (0 : Int32).toInt = 0 := by decide
  unfold kWi
  by_cases h1 : p < 100
  · rw [if_pos h1] at ey
    have h1i := Int32.lt_iff_toInt_lt.mp h1
    subst ey
    by_cases h2 : (0 : Int32) < y
    · have h2i := Int32.lt_iff_toInt_lt.mp h2
      rw [if_pos h2] at ez
      rw [if_neg (fun q => by have := Int32.lt_iff_toInt_lt.mp q; omega), if_neg (fun q => by have := Int32.lt_iff_toInt_lt.mp q; omega)]
      exact ez
    · rw [if_neg h2] at ez
      have h2i : ¬ (0 : Int32).toInt < y.toInt := fun q => h2 (Int32.lt_iff_toInt_lt.mpr q)
      by_cases h3 : y < 0
      · rw [if_pos h3]; exact ez
      · have h3i : ¬ y.toInt < (0 : Int32).toInt := fun q => h3 (Int32.lt_iff_toInt_lt.mpr q)
        rw [if_neg h3, if_neg (fun q => by have := Int32.lt_iff_toInt_lt.mp q; omega), ez]
        exact Int32.toInt_inj.mp (by omega)
  · rw [if_neg h1] at ey
    have h1i : ¬ p.toInt < (100 : Int32).toInt := fun q => h1 (Int32.lt_iff_toInt_lt.mpr q)
    rw [ey] at ez
    rw [if_pos (by decide)] at ez
    rw [if_neg (fun q => by have := Int32.lt_iff_toInt_lt.mp q; omega), ez]
    by_cases h4 : 100 < p
    · rw [if_pos h4]
    · have h4i : ¬ (100 : Int32).toInt < p.toInt := fun q => h4 (Int32.lt_iff_toInt_lt.mpr q)
      rw [if_neg h4]
      exact Int32.toInt_inj.mp (by omega)
/-- how many, how much: those near one, so far -/
def kNP (E : kEn) (S : kRst) (j : Nat) (f : Nat → Int32) (n : Nat) : Int32 := if S.2.2.1 j = -1 then 0 else kSm (kBut j (kIh E S (S.2.2.1 j))) f n
theorem kNP0 (E : kEn) (S : kRst) (j : Nat) (f : Nat → Int32) : (0 : Int32) = kNP E S j f 0 := by
  unfold kNP
  split <;> rfl
theorem kNPf {E : kEn} {S : kRst} {j n : Nat} {f : Nat → Int32} (h : ¬ kBut j (kIh E S (S.2.2.1 j)) n = true) : kNP E S j f (n + 1) = kNP E S j f n := by
  unfold kNP
  rw [kSm_f h]
theorem kNPa {E : kEn} {S : kRst} {j n : Nat} {f : Nat → Int32} (h : n = j) : kNP E S j f (n + 1) = kNP E S j f n := kNPf (by rw [h]; exact kBut_s)
theorem kNPb {E : kEn} {S : kRst} {j n : Nat} {f : Nat → Int32} (h0 : ¬ n = j) (h : E.2.2.2.2.2.1 n = 0) : kNP E S j f (n + 1) = kNP E S j f n := kNPf (by rw [kBut_n h0, kIh_t]; exact fun z => z.1 h)
theorem kNPc {E : kEn} {S : kRst} {j n : Nat} {f : Nat → Int32} (h : S.2.2.1 j = -1) : kNP E S j f (n + 1) = kNP E S j f n := by
  unfold kNP
  rw [if_pos h, if_pos h]
theorem kNPd {E : kEn} {S : kRst} {j n : Nat} {f : Nat → Int32} (h0 : ¬ n = j) (h : ¬ S.2.2.1 n = S.2.2.1 j) : kNP E S j f (n + 1) = kNP E S j f n := kNPf (by rw [kBut_n h0, kIh_t]; exact fun z => h z.2)
theorem kNPt {E : kEn} {S : kRst} {j n : Nat} {f : Nat → Int32} (h0 : ¬ n = j) (h1 : ¬ E.2.2.2.2.2.1 n = 0) (h2 : ¬ S.2.2.1 j = -1) (h3 : S.2.2.1 n = S.2.2.1 j) : kNP E S j f (n + 1) = kNP E S j f n + f n := by
  unfold kNP
  rw [if_neg h2, if_neg h2, kSm_t (by rw [kBut_n h0, kIh_t]; exact ⟨h1, h3⟩)]
/-- the letters' signs -/
def kSg8 (k : Nat) : Nat := if k = 0 then 118 else if k = 1 then 112 else if k = 2 then 110 else if k = 3 then 109 else if k = 4 then 115 else if k = 5 then 117 else if k = 6 then 100 else 105
theorem kSg8_c : ∀ k : Nat, k < 8 → kSg8 k < 128 := fun k hk => by
  rcases (show k = 0 ∨ k = 1 ∨ k = 2 ∨ k = 3 ∨ k = 4 ∨ k = 5 ∨ k = 6 ∨ k = 7 by omega) with z | z | z | z | z | z | z | z <;> (rw [z]; decide)
theorem kUpc {f g : Nat → Int32} {i a : Int32} {n : Nat} (h : g = upd f (Int32.toNatClampNeg i) a) (e : Int32.toNatClampNeg i = n) : g = upd f n a := by rw [h, e]
theorem kLay8 {E : kEn} {S : kRst} {j : Nat} {f f0 f1 f2 f3 f4 f5 f6 f7 : Nat → Int32} {a0 a1 a2 a3 a4 a5 a6 a7 : Int32} (e0 : f0 = upd f 118 a0) (e1 : f1 = upd f0 112 a1) (e2 : f2 = upd f1 110 a2) (e3 : f3 = upd f2 109 a3) (e4 : f4 = upd f3 115 a4) (e5 : f5 = upd f4 117 a5) (e6 : f6 = upd f5 100 a6) (e7 : f7 = upd f6 105 a7) (h0 : a0 = S.1 j) (h1 : a1 = S.2.1 j) (h2 : a2 = kNn E S j) (h3 : a3 = kLe E S j 3) (h4 : a4 = kNse E S j) (h5 : a5 = kUu E S) (h6 : a6 = kDd E S) (h7 : a7 = nI S.2.2.2.2.2) : ∀ k : Nat, k < 8 → f7 (kSg8 k) = kLe E S j k := fun k hk => by
  rcases (show k = 0 ∨ k = 1 ∨ k = 2 ∨ k = 3 ∨ k = 4 ∨ k = 5 ∨ k = 6 ∨ k = 7 by omega) with z | z | z | z | z | z | z | z
  · rw [z, show kSg8 0 = 118 from rfl, e7, pk_un (by omega), e6, pk_un (by omega), e5, pk_un (by omega), e4, pk_un (by omega), e3, pk_un (by omega), e2, pk_un (by omega), e1, pk_un (by omega), e0, pk_us]; exact h0
  · rw [z, show kSg8 1 = 112 from rfl, e7, pk_un (by omega), e6, pk_un (by omega), e5, pk_un (by omega), e4, pk_un (by omega), e3, pk_un (by omega), e2, pk_un (by omega), e1, pk_us]; exact h1
  · rw [z, show kSg8 2 = 110 from rfl, e7, pk_un (by omega), e6, pk_un (by omega), e5, pk_un (by omega), e4, pk_un (by omega), e3, pk_un (by omega), e2, pk_us]; exact h2
  · rw [z, show kSg8 3 = 109 from rfl, e7, pk_un (by omega), e6, pk_un (by omega), e5, pk_un (by omega), e4, pk_un (by omega), e3, pk_us]; exact h3
  · rw [z, show kSg8 4 = 115 from rfl, e7, pk_un (by omega), e6, pk_un (by omega), e5, pk_un (by omega), e4, pk_us]; exact h4
  · rw [z, show kSg8 5 = 117 from rfl, e7, pk_un (by omega), e6, pk_un (by omega), e5, pk_us]; exact h5
  · rw [z, show kSg8 6 = 100 from rfl, e7, pk_un (by omega), e6, pk_us]; exact h6
  · rw [z, show kSg8 7 = 105 from rfl, e7, pk_us]; exact h7
theorem kLe3z {E : kEn} {S : kRst} {j : Nat} {x : Int32} (hx : x = kNn E S j) (c : x = 0) : (0 : Int32) = kLe E S j 3 := by
  show (0 : Int32) = if kNn E S j = 0 then 0 else kNh E S j / kNn E S j
  rw [if_pos (hx.symm.trans c)]
theorem kLe3p {E : kEn} {S : kRst} {j : Nat} {x y d : Int32} (hx : x = kNn E S j) (hy : y = kNh E S j) (c : ¬ x = 0) (e : d = y / x) : d = kLe E S j 3 := by
  show d = if kNn E S j = 0 then 0 else kNh E S j / kNn E S j
  rw [if_neg (fun z => c (hx.trans z)), e, hx, hy]
theorem kUu_of {E : kEn} {S : kRst} {x : Int32} {k : Nat} (hk : E.2.1 = k) (h : x = kSm (kPa E.2.2.2.1 (nI S.2.2.2.2.2)) (fun _ => 1) k) : x = kUu E S := by unfold kUu; rw [hk]; exact h
theorem kDd_z {E : kEn} {S : kRst} {x : Int32} {k : Nat} (hk : E.2.1 = k) (h : x = kLa E.2.2.2.1 (nI S.2.2.2.2.2) k) (c : x = -1) : (0 : Int32) = kDd E S := by unfold kDd; rw [hk, if_pos (h.symm.trans c)]
theorem kDd_p {E : kEn} {S : kRst} {x d : Int32} {k : Nat} (hk : E.2.1 = k) (h : x = kLa E.2.2.2.1 (nI S.2.2.2.2.2) k) (c : ¬ x = -1) (e : d = nI S.2.2.2.2.2 - x) : d = kDd E S := by unfold kDd; rw [hk, if_neg (fun z => c (h.trans z)), ← h]; exact e
/-- what a label is worth, as the reference finds it -/
theorem kYyR {E : kEn} {S : kRst} {j lab : Nat} {mf4 xA xB : Nat → Int32} {nA nB : Nat} {p r : Int32} {y : List kTr} (hA : nA = 3 ∧ xA 0 = 121 ∧ xA 1 = 103 ∧ xA 2 = 120) (hB : nB = 8 ∧ ∀ k : Nat, k < 8 → xB k = nI (kSg8 k)) (hl : ∀ k : Nat, k < 8 → mf4 (kSg8 k) = kLe E S j k) (hb : ∀ k : Nat, kBd (kLe E S j k)) (hg : ∀ z ∈ y, kGdC nA nB z) (hy : E.2.2.2.2.2.2 = y) (hp : (lab = 0 ∧ p = 121) ∨ (lab = 1 ∧ p = 103) ∨ (lab = 2 ∧ p = 120)) (h : (∀ q : Nat, q < nB → kBd (kLt mf4 xB q)) → r = (kFo (kLt mf4 xB) xA p y (0, 0)).1) : r = kYy E S lab j := by
  have hk : ∀ k : Nat, k < nB → kLt mf4 xB k = kLe E S j k := fun k hk => by
    unfold kLt
    rw [hB.2 k (by omega), nI_clamp (by have := kSg8_c k (by omega); omega)]
    exact hl k (by omega)
  rw [h (fun q hq => by rw [hk q hq]; exact hb q)]
  rw [kFo_wo (lab := lab) y (fun z hz => by
    have h1 : z.1 < nA := (hg z hz).1
    have h3 : z.1 = 0 ∨ z.1 = 1 ∨ z.1 = 2 := by omega
    rcases hp with ⟨e1, e2⟩ | ⟨e1, e2⟩ | ⟨e1, e2⟩ <;> rcases h3 with q | q | q <;> rw [q, e1, e2]
    · exact ⟨fun _ => rfl, fun _ => hA.2.1⟩
    · rw [hA.2.2.1]; exact ⟨fun t => absurd t (by decide), fun t => absurd t (by decide)⟩
    · rw [hA.2.2.2]; exact ⟨fun t => absurd t (by decide), fun t => absurd t (by decide)⟩
    · rw [hA.2.1]; exact ⟨fun t => absurd t (by decide), fun t => absurd t (by decide)⟩
    · exact ⟨fun _ => rfl, fun _ => hA.2.2.1⟩
    · rw [hA.2.2.2]; exact ⟨fun t => absurd t (by decide), fun t => absurd t (by decide)⟩
    · rw [hA.2.1]; exact ⟨fun t => absurd t (by decide), fun t => absurd t (by decide)⟩
    · rw [hA.2.2.1]; exact ⟨fun t => absurd t (by decide), fun t => absurd t (by decide)⟩
    · exact ⟨fun _ => rfl, fun _ => hA.2.2.2⟩)]
  unfold kYy
  rw [hy]
  exact kWoT_c hk y hg
/-- what the law is worth to each, as the reference lays it -/
def kWgR (E : kEn) (S : kRst) (n : Nat) (y g x : Nat → Int32) : Prop := ∀ j : Nat, j < n → kFr E j = true → y j = kYy E S 0 j ∧ g j = kYy E S 1 j ∧ x j = kYy E S 2 j
theorem kWgRU {E : kEn} {S : kRst} {i : Nat} {y g x y1 g1 x1 : Nat → Int32} {a b c : Int32} (hi : i < 2 ^ 31) (ey : y1 = upd y (Int32.toNatClampNeg (nI i)) a) (eg : g1 = upd g (Int32.toNatClampNeg (nI i)) b) (ex : x1 = upd x (Int32.toNatClampNeg (nI i)) c) (ha : a = kYy E S 0 i) (hb : b = kYy E S 1 i) (hc : c = kYy E S 2 i) (H : kWgR E S i y g x) : kWgR E S (i + 1) y1 g1 x1 := fun j hj hf => by
  rw [nI_clamp hi] at ey eg ex
  rw [ey, eg, ex]
  by_cases z : j = i
  · rw [z, pk_us, pk_us, pk_us]; exact ⟨ha, hb, hc⟩
  · rw [pk_un z, pk_un z, pk_un z]; exact H j (by omega) hf
theorem kWgRS {E : kEn} {S : kRst} {i : Nat} {y g x : Nat → Int32} (hf : ¬ kFr E i = true) (H : kWgR E S i y g x) : kWgR E S (i + 1) y g x := fun j hj hf2 => by
  by_cases z : j = i
  · rw [z] at hf2; exact absurd hf2 hf
  · exact H j (by omega) hf2
/-- what each that is free hears -/
def kHeR (E : kEn) (S : kRst) (f : Nat → Int32) (i n : Nat) : Prop := ∀ k : Nat, k < E.1 → kFr E k = true → f k = kHe E S k (if k < n then i + 1 else i)
theorem kHeR0 {E : kEn} {S : kRst} {f : Nat → Int32} {i : Nat} (H : ∀ k : Nat, k < E.1 → kFr E k = true → f k = kHe E S k i) : kHeR E S f i 0 := fun k hk hf => by rw [if_neg (Nat.not_lt_zero k)]; exact H k hk hf
theorem kHeRE {E : kEn} {S : kRst} {f : Nat → Int32} {i n : Nat} (hn : E.1 ≤ n) (H : kHeR E S f i n) : ∀ k : Nat, k < E.1 → kFr E k = true → f k = kHe E S k (i + 1) := fun k hk hf => by have := H k hk hf; rw [if_pos (by omega)] at this; exact this
theorem kHeRS {E : kEn} {S : kRst} {f : Nat → Int32} {i n : Nat} (h : kFr E n = true → ¬ kTn E S n i = true) (H : kHeR E S f i n) : kHeR E S f i (n + 1) := fun k hk hf => by
  rw [H k hk hf]
  by_cases z : k = n
  · rw [if_neg (by omega), if_pos (by omega)]
    rw [z] at hf ⊢
    exact (kSm_f (h hf)).symm
  · by_cases y : k < n
    · rw [if_pos y, if_pos (by omega)]
    · rw [if_neg y, if_neg (by omega)]
theorem kHeRU {E : kEn} {S : kRst} {f f1 : Nat → Int32} {i n : Nat} {y a b : Int32} (hn : n < 2 ^ 31) (e : f1 = upd f (Int32.toNatClampNeg (nI n)) y) (ey : y = a + b) (ha : a = f n) (hb : b = kYy E S 2 i) (h : kTn E S n i = true) (H : kHeR E S f i n) : kHeR E S f1 i (n + 1) := fun k hk hf => by
  rw [e, nI_clamp hn]
  by_cases z : k = n
  · rw [z] at hf hk ⊢
    rw [pk_us, if_pos (by omega), ey, ha, hb]
    have h1 := H n hk hf
    rw [if_neg (Nat.lt_irrefl n)] at h1
    rw [h1]
    exact (kSm_t h).symm
  · rw [pk_un z, H k hk hf]
    by_cases y : k < n
    · rw [if_pos y, if_pos (by omega)]
    · rw [if_neg y, if_neg (by omega)]
theorem kTnR {E : kEn} {S : kRst} {k j : Nat} (ht : kTe E S j = true) (hb : ¬ kIsB (E.2.2.1 j) (nI k) = 0) (h : S.2.2.1 k = -1 ∨ ¬ S.2.2.1 k = S.2.2.1 j) : kTn E S k j = true := kTn_t.mpr ⟨ht, hb, fun z => h.elim (fun y => z.1 (z.2.trans y)) (fun y => y z.2.symm)⟩
theorem kTnR1 {E : kEn} {S : kRst} {k j : Nat} (hb : kIsB (E.2.2.1 j) (nI k) = 0) : ¬ kTn E S k j = true := fun z => (kTn_t.mp z).2.1 hb
theorem kTnR2 {E : kEn} {S : kRst} {k j : Nat} (h1 : ¬ S.2.2.1 k = -1) (h2 : S.2.2.1 k = S.2.2.1 j) : ¬ kTn E S k j = true := fun z => (kTn_t.mp z).2.2 ⟨fun y => h1 (h2.trans y), h2.symm⟩
theorem kHas_B (a : Int32) {j : Nat} (hj : j < 32) : (kHas a (nI j) = 0 ↔ kIsB a (nI j) = 0) := by
  rw [kIsB_bit a hj]
  unfold kHas
  cases hb : a.toBitVec.getLsbD j with
  | false =>
    have e : a >>> (nI j &&& 31) &&& 1 = 0 := Int32.toBitVec_inj.mp (by rw [kShB a hj]; exact kSh0 _ _ hb hj)
    rw [if_neg (fun z => absurd (e.symm.trans z) (by decide))]
    exact ⟨fun _ => rfl, fun _ => rfl⟩
  | true =>
    have e : a >>> (nI j &&& 31) &&& 1 = 1 := Int32.toBitVec_inj.mp (by rw [kShB a hj]; exact kSh1 _ _ hb hj)
    rw [if_pos e]
    exact ⟨fun z => absurd z (by decide), fun z => absurd z (by decide)⟩
theorem kRp_tr {ks n : Nat} {S : kRst} {a b c d h p l t : Nat → Int32} {x : Int64} (H : kRp ks (a, b, c, d, x, n) h p l t) (H2 : kRp ks S a b c d) : kRp ks S h p l t := fun j hj => by
  obtain ⟨q1, q2, q3, q4⟩ := H j hj
  obtain ⟨z1, z2, z3, z4⟩ := H2 j hj
  exact ⟨q1.trans z1, q2.trans z2, q3.trans z3, q4.trans z4⟩
/-- the told rows of both sides -/
def kTd (ks kw : Nat) (g0 g1 g2 g3 g4 : Nat → Int32) (sv : Nat) (m19 m20 m21 m22 m24 m25 : Nat → Int32) : Prop := (∀ j : Nat, j < ks → m19 j = g0 j ∧ m20 j = g1 j ∧ m21 j = g2 j ∧ m22 j = g3 j ∧ (kIsB (nI sv) (nI j) = if m25 j = 0 then 0 else 1)) ∧ (∀ i : Nat, i < kw → m24 i = g4 i ∧ 0 ≤ (g4 i).toInt ∧ (g4 i).toInt ≤ 47) ∧ sv < 2 ^ ks
theorem kTd_E {ks kw sv : Nat} {g0 g1 g2 g3 g4 m19 m20 m21 m22 m24 m25 : Nat → Int32} {ab th : Int32} {t : List kTr} (H : kTd ks kw g0 g1 g2 g3 g4 sv m19 m20 m21 m22 m24 m25) (hks : ks ≤ 10) (hth : th = kPrs ks ab) : kRE (kE0 ks kw g3 g4 sv (kPrs ks ab) t) ks kw m22 m24 m25 th := ⟨⟨rfl, rfl⟩, fun j hj => (H.1 j hj).2.2.2.1.symm, fun i hi => (H.2.1 i hi).1.symm, fun j hj => (H.1 j hj).2.2.2.2, fun j hj => by rw [hth]; exact (kHas_B _ (by omega)).symm, fun j => kIsB_01 _ _, fun i hi => (H.2.1 i hi).2⟩
theorem kTd_S {ks kw sv : Nat} {g0 g1 g2 g3 g4 m19 m20 m21 m22 m24 m25 : Nat → Int32} {x : Int64} (H : kTd ks kw g0 g1 g2 g3 g4 sv m19 m20 m21 m22 m24 m25) : kRp ks (kS0 g0 g1 g2 x) m19 m20 m21 (fun _ => -1) := fun j hj => ⟨(H.1 j hj).1, (H.1 j hj).2.1, (H.1 j hj).2.2.1, rfl⟩
/-- what both sides were told, and that it is within bounds -/
def kT0 (ks kw : Nat) (g0 g1 g2 g3 g4 m19 m20 m21 m22 m24 : Nat → Int32) : Prop := (∀ j : Nat, j < ks → m19 j = g0 j ∧ m20 j = g1 j ∧ m21 j = g2 j ∧ m22 j = g3 j) ∧ (∀ i : Nat, i < kw → m24 i = g4 i ∧ 0 ≤ (g4 i).toInt ∧ (g4 i).toInt ≤ 47) ∧ (∀ j : Nat, ks ≤ j → g3 j = 0) ∧ kOk ks (kS0 g0 g1 g2 0)
theorem kTd_mk {ks kw sv : Nat} {g0 g1 g2 g3 g4 m19 m20 m21 m22 m24 m25 : Nat → Int32} (H : kT0 ks kw g0 g1 g2 g3 g4 m19 m20 m21 m22 m24) (hse : ∀ j : Nat, j < ks → (m25 j = 0 ↔ kIsB (nI sv) (nI j) = 0)) (hsb : sv < 2 ^ ks) : kTd ks kw g0 g1 g2 g3 g4 sv m19 m20 m21 m22 m24 m25 := by
  refine ⟨fun j hj => ?_, H.2.1, hsb⟩
  obtain ⟨h1, h2, h3, h4⟩ := H.1 j hj
  refine ⟨h1, h2, h3, h4, ?_⟩
  rcases kIsB_01 (nI sv) (nI j) with z | z
  · rw [z, if_pos ((hse j hj).mpr z)]
  · rw [z, if_neg (fun y => absurd ((hse j hj).mp y) (by rw [z]; decide))]
theorem kPerN_in {p q u : Int32} {k : Nat} (h : kPerN p q u k = k + 1) : ¬ kIn p 0 100 = 0 ∧ ¬ kIn q 0 99 = 0 ∧ ¬ kIn u 0 3 = 0 := by
  unfold kPerN at h
  by_cases h1 : kIn p 0 100 = 0
  · rw [if_pos h1] at h; omega
  · rw [if_neg h1] at h
    by_cases h2 : kIn q 0 99 = 0
    · rw [if_pos h2] at h; omega
    · rw [if_neg h2] at h
      by_cases h3 : kIn u 0 3 = 0
      · rw [if_pos h3] at h; omega
      · exact ⟨h1, h2, h3⟩
theorem kPeF_n {p q u v : Int32} {k : Nat} {f : Nat → Int32} (h : kPerN p q u k = k) : kPeF p q u k v f = f := if_pos h
theorem kPeF_s {p q u v : Int32} {k : Nat} {f : Nat → Int32} (h : kPerN p q u k = k + 1) : kPeF p q u k v f = upd f k v := if_neg (by omega)
theorem kT0_per {p q u : Int32} {ks kw : Nat} {g0 g1 g2 g3 g4 m19 m20 m21 m22 m24 : Nat → Int32} (H : kT0 ks kw g0 g1 g2 g3 g4 m19 m20 m21 m22 m24) : kT0 (kPerN p q u ks) kw (kPeF p q u ks p g0) (kPeF p q u ks q g1) (kPeF p q u ks u g2) g3 g4 (kPeF p q u ks p m19) (kPeF p q u ks q m20) (kPeF p q u ks u m21) (kPeF p q u ks 0 m22) m24 := by
  rcases kPerN_or p q u ks with e | ⟨e, _⟩
  · rw [kPeF_n e, kPeF_n e, kPeF_n e, kPeF_n e, kPeF_n e, kPeF_n e, kPeF_n e, e]; exact H
  · obtain ⟨i1, i2, i3⟩ := kPerN_in e
    obtain ⟨a, ha, ea⟩ := kIn_ix (n := 100) (by decide) i1
    obtain ⟨b, hb, eb⟩ := kIn_ix (n := 99) (by decide) i2
    obtain ⟨c, hc, ec⟩ := kIn_ix (n := 3) (by decide) i3
    rw [kPeF_s e, kPeF_s e, kPeF_s e, kPeF_s e, kPeF_s e, kPeF_s e, kPeF_s e, e]
    refine ⟨fun j hj => ?_, H.2.1, fun j hj => H.2.2.1 j (by omega), fun j hj => ?_⟩
    · by_cases z : j = ks
      · rw [z, pk_us, pk_us, pk_us, pk_us, pk_us, pk_us, pk_us]
        exact ⟨rfl, rfl, rfl, (H.2.2.1 ks (Nat.le_refl ks)).symm⟩
      · rw [pk_un z, pk_un z, pk_un z, pk_un z, pk_un z, pk_un z, pk_un z]
        exact H.1 j (by omega)
    · show (0 ≤ (upd g0 ks p j).toInt ∧ (upd g0 ks p j).toInt ≤ 100) ∧ (0 ≤ (upd g1 ks q j).toInt ∧ (upd g1 ks q j).toInt ≤ 99) ∧ (upd g2 ks u j = -1 ∨ ∃ v : Nat, v < 4 ∧ upd g2 ks u j = nI v)
      by_cases z : j = ks
      · rw [z, pk_us, pk_us, pk_us, ea, eb, ec, nI_toInt (by omega), nI_toInt (by omega)]
        exact ⟨by omega, by omega, Or.inr ⟨c, by omega, rfl⟩⟩
      · rw [pk_un z, pk_un z, pk_un z]
        exact H.2.2.2 j (by omega)
theorem kKn_in {p q : Int32} {k : Nat} (h : ¬ kKnow p q k = 0) : ∃ a b : Nat, a < k ∧ b < k ∧ p = nI a ∧ q = nI b := by
  unfold kKnow at h
  by_cases h1 : kPn p k = 0
  · rw [if_pos h1] at h; exact absurd rfl h
  · rw [if_neg h1] at h
    by_cases h2 : kPn q k = 0
    · rw [if_pos h2] at h; exact absurd rfl h
    · have hx : ∀ x : Int32, ¬ kPn x k = 0 → ∃ a : Nat, a < k ∧ x = nI a := fun x hx => by
        unfold kPn at hx
        by_cases y1 : x < 0
        · rw [if_pos y1] at hx; exact absurd rfl hx
        · rw [if_neg y1] at hx
          by_cases y2 : x < nI k
          · obtain ⟨a, ha, ea⟩ := nI_of y1
            refine ⟨a, ?_, ea⟩
            rw [ea] at y2
            by_cases y3 : k < 2 ^ 31
            · exact klt ha y3 y2
            · omega
          · rw [if_neg y2] at hx; exact absurd rfl hx
      obtain ⟨a, ha, ea⟩ := hx p h1
      obtain ⟨b, hb, eb⟩ := hx q h2
      exact ⟨a, b, ha, hb, ea, eb⟩
theorem kT0_kno {p q : Int32} {ks kw : Nat} {g0 g1 g2 g3 g4 m19 m20 m21 m22 m24 : Nat → Int32} (hk : ks ≤ 10) (H : kT0 ks kw g0 g1 g2 g3 g4 m19 m20 m21 m22 m24) : kT0 ks kw g0 g1 g2 (kKnF p q ks g3) g4 m19 m20 m21 (kKnF p q ks m22) m24 := by
  unfold kKnF
  by_cases h : kKnow p q ks = 0
  · rw [if_pos h, if_pos h]; exact H
  · obtain ⟨a, b, ha, hb, ea, eb⟩ := kKn_in h
    rw [if_neg h, if_neg h, ea, eb, nI_clamp (by omega), nI_clamp (by omega)]
    refine ⟨fun j hj => ?_, H.2.1, fun j hj => ?_, H.2.2.2⟩
    · obtain ⟨h1, h2, h3, h4⟩ := H.1 j hj
      refine ⟨h1, h2, h3, ?_⟩
      have e1 : ∀ x : Nat, x < ks → upd m22 a (m22 a ||| ((1 : Int32) <<< (nI b &&& 31))) x = upd g3 a (g3 a ||| ((1 : Int32) <<< (nI b &&& 31))) x := fun x hx => by
        by_cases z : x = a
        · rw [z, pk_us, pk_us, (H.1 a ha).2.2.2]
        · rw [pk_un z, pk_un z]; exact (H.1 x hx).2.2.2
      unfold kKn2
      by_cases z : j = b
      · rw [z, pk_us, pk_us, e1 b hb]
      · rw [pk_un z, pk_un z]; exact e1 j hj
    · unfold kKn2
      rw [pk_un (by omega), pk_un (by omega)]
      exact H.2.2.1 j hj
theorem kWordN_or (p : Int32) (k : Nat) : kWordN p k = k ∨ (kWordN p k = k + 1 ∧ ¬ kIn p 0 47 = 0) := by
  unfold kWordN
  by_cases h : kIn p 0 47 = 0
  · rw [if_pos h]; exact Or.inl rfl
  · rw [if_neg h]
    by_cases h2 : k < 4
    · rw [if_pos h2]; exact Or.inr ⟨rfl, h⟩
    · rw [if_neg h2]; exact Or.inl rfl
theorem kT0_wrd {p : Int32} {ks kw : Nat} {g0 g1 g2 g3 g4 m19 m20 m21 m22 m24 : Nat → Int32} (H : kT0 ks kw g0 g1 g2 g3 g4 m19 m20 m21 m22 m24) : kT0 ks (kWordN p kw) g0 g1 g2 g3 (kWdF p kw g4) m19 m20 m21 m22 (kWdF p kw m24) := by
  unfold kWdF
  rcases kWordN_or p kw with e | ⟨e, hi⟩
  · rw [if_pos e, if_pos e, e]; exact H
  · obtain ⟨a, ha, ea⟩ := kIn_ix (n := 47) (by decide) hi
    rw [if_neg (by omega), if_neg (by omega), e]
    refine ⟨H.1, fun i hj => ?_, H.2.2⟩
    by_cases z : i = kw
    · rw [z, pk_us, pk_us, ea, nI_toInt (by omega)]
      exact ⟨rfl, by omega, by omega⟩
    · rw [pk_un z, pk_un z]
      exact H.2.1 i (by omega)
theorem kT0_0 (g0 g1 g2 g4 m19 m20 m21 m22 m24 : Nat → Int32) : kT0 0 0 g0 g1 g2 (fun _ => 0) g4 m19 m20 m21 m22 m24 := ⟨fun j hj => absurd hj (Nat.not_lt_zero j), fun j hj => absurd hj (Nat.not_lt_zero j), fun _ _ => rfl, fun j hj => absurd hj (Nat.not_lt_zero j)⟩
def kAsk (p q : Int32) (kl ks : Nat) (x : Int32) : Int32 := if kPn p kl = 0 then 0 else if kPn q ks = 0 then 0 else if x = 0 then 1 else 0
theorem kAsk_y {p q x : Int32} {kl ks : Nat} (h : ¬ kAsk p q kl ks x = 0) : ¬ kPn p kl = 0 ∧ ¬ kPn q ks = 0 ∧ x = 0 := by
  unfold kAsk at h
  by_cases h1 : kPn p kl = 0
  · rw [if_pos h1] at h; exact absurd rfl h
  · rw [if_neg h1] at h
    by_cases h2 : kPn q ks = 0
    · rw [if_pos h2] at h; exact absurd rfl h
    · rw [if_neg h2] at h
      by_cases h3 : x = 0
      · exact ⟨h1, h2, h3⟩
      · rw [if_neg h3] at h; exact absurd rfl h
theorem kPn_ex {x : Int32} {k : Nat} (hk : k < 2 ^ 31) (h : ¬ kPn x k = 0) : ∃ a : Nat, a < k ∧ x = nI a := by
  unfold kPn at h
  by_cases y1 : x < 0
  · rw [if_pos y1] at h; exact absurd rfl h
  · rw [if_neg y1] at h
    by_cases y2 : x < nI k
    · obtain ⟨a, ha, ea⟩ := nI_of y1
      exact ⟨a, klt ha hk (by rw [← ea]; exact y2), ea⟩
    · rw [if_neg y2] at h; exact absurd rfl h
theorem kTd_se {ks kw sv j : Nat} {g0 g1 g2 g3 g4 m19 m20 m21 m22 m24 m25 : Nat → Int32} (H : kTd ks kw g0 g1 g2 g3 g4 sv m19 m20 m21 m22 m24 m25) (hj : j < ks) : (kIsB (nI sv) (nI j) = 0 ↔ m25 j = 0) := by
  rw [(H.1 j hj).2.2.2.2]
  by_cases z : m25 j = 0
  · rw [if_pos z]; exact ⟨fun _ => z, fun _ => rfl⟩
  · rw [if_neg z]; exact ⟨fun y => absurd y (by decide), fun y => absurd y z⟩
theorem kAsk_n {p q : Int32} {kl ks kw sv : Nat} {g0 g1 g2 g3 g4 m19 m20 m21 m22 m24 m25 : Nat → Int32} (H : kTd ks kw g0 g1 g2 g3 g4 sv m19 m20 m21 m22 m24 m25) (hks : ks ≤ 10) (h : kAsk p q kl ks (m25 (Int32.toNatClampNeg q)) = 0) : kPn p kl = 0 ∨ kPn q ks = 0 ∨ ¬ kIsB (nI sv) q = 0 := by
  unfold kAsk at h
  by_cases h1 : kPn p kl = 0
  · exact Or.inl h1
  · rw [if_neg h1] at h
    by_cases h2 : kPn q ks = 0
    · exact Or.inr (Or.inl h2)
    · rw [if_neg h2] at h
      obtain ⟨a, ha, ea⟩ := kPn_ex (by omega) h2
      refine Or.inr (Or.inr ?_)
      rw [ea]
      rw [ea, nI_clamp (by omega)] at h
      by_cases h3 : m25 a = 0
      · rw [if_pos h3] at h; exact absurd h (by decide)
      · exact fun z => h3 ((kTd_se H ha).mp z)
theorem kModB (v i : Nat) : v % 2 ^ (i + 1) = (v % 2 ^ i) ||| (if v.testBit i then 2 ^ i else 0) := by
  apply Nat.eq_of_testBit_eq
  intro j
  rw [Nat.testBit_mod_two_pow, Nat.testBit_or, Nat.testBit_mod_two_pow]
  by_cases z : j = i
  · subst z
    cases h : v.testBit j
    · simp
    · simp
  · have h2 : (if v.testBit i then 2 ^ i else 0).testBit j = false := by
      split
      · exact Nat.testBit_two_pow_of_ne (fun e => z e.symm)
      · exact Nat.zero_testBit j
    rw [h2, Bool.or_false]
    by_cases y : j < i
    · rw [decide_eq_true y, decide_eq_true (by omega)]
    · rw [decide_eq_false y, decide_eq_false (by omega)]
theorem kAlS {sv i : Nat} {x y z m : Int32} (hs : sv < 1024) (hi : i < 10) (hx : x = nI (sv % 2 ^ i)) (hm : kIsB (nI sv) (nI i) = if m = 0 then 0 else 1) (c : ¬ m = 0) (ey : y = (1 : Int32) <<< (nI i &&& 31)) (ez : z = x ||| y) : z = nI (sv % 2 ^ (i + 1)) := by
  rw [kIsB_n hs hi, if_neg c] at hm
  have ht : sv.testBit i = true := by
    cases h : sv.testBit i
    · rw [h] at hm; exact absurd hm (by decide)
    · rfl
  rw [kModB, ht, ez, hx, ey, kShl (by omega), nI_or]
  rfl
theorem kAlN {sv i : Nat} {x z m : Int32} (hs : sv < 1024) (hi : i < 10) (hx : x = nI (sv % 2 ^ i)) (hm : kIsB (nI sv) (nI i) = if m = 0 then 0 else 1) (c : m = 0) (ez : z = x ||| 0) : z = nI (sv % 2 ^ (i + 1)) := by
  rw [kIsB_n hs hi, if_pos c] at hm
  have ht : sv.testBit i = false := by
    cases h : sv.testBit i
    · rfl
    · rw [h] at hm; exact absurd hm (by decide)
  rw [kModB, ht, ez, hx]
  have h := nI_or (sv % 2 ^ i) 0
  exact h
theorem kAllV0 {w pr : Int32} {S : kRst} : (0 : Int32) = kAllV w pr S 0 := by
  unfold kAllV
  split <;> rfl
theorem kAllVh {w pr x z : Int32} {S : kRst} {i : Nat} (hw : w = 0) (hx : x = kAllV w pr S i) (hc : kHmC pr S i = true) (ez : z = x + 1) : z = kAllV w pr S (i + 1) := by
  unfold kAllV at hx ⊢
  rw [if_pos hw] at hx ⊢
  rw [kSm_t hc, ez, hx]
theorem kAllVn {w pr x z : Int32} {S : kRst} {i : Nat} (hw : w = 0) (hx : x = kAllV w pr S i) (hc : ¬ kHmC pr S i = true) (ez : z = x + 0) : z = kAllV w pr S (i + 1) := by
  unfold kAllV at hx ⊢
  rw [if_pos hw] at hx ⊢
  rw [kSm_f hc, ez, hx]
  exact Int32.add_zero _
theorem kAllVg {w pr x y z : Int32} {S : kRst} {i : Nat} (hi : i < 31) (hw : ¬ w = 0) (hx : x = kAllV w pr S i) (hc : kGuC pr S i = true) (ey : y = (1 : Int32) <<< (nI i &&& 31)) (ez : z = x + y) : z = kAllV w pr S (i + 1) := by
  unfold kAllV at hx ⊢
  rw [if_neg hw] at hx ⊢
  exact kBtsA hi hx hc ey ez
theorem kAllVo {w pr x z : Int32} {S : kRst} {i : Nat} (hw : ¬ w = 0) (hx : x = kAllV w pr S i) (hc : ¬ kGuC pr S i = true) (ez : z = x + 0) : z = kAllV w pr S (i + 1) := by
  unfold kAllV at hx ⊢
  rw [if_neg hw] at hx ⊢
  rw [kBts_f hc, ez, hx]
  exact Int32.add_zero _
theorem kOr0 (x : Int32) : x ||| 0 = x := Int32.toBitVec_inj.mp (by show x.toBitVec ||| 0#32 = x.toBitVec; exact BitVec.or_zero)
theorem kBtsO {c : Nat → Bool} {i : Nat} {x z : Int32} (hx : x = nI (kBts c i)) (hc : ¬ c i = true) (ez : z = x ||| 0) : z = nI (kBts c (i + 1)) := by rw [kBts_f hc, ez, kOr0, hx]
theorem kSubF : ∀ a b : Fin 11, ((nI a.val - nI b.val < 0 ↔ a.val < b.val) ∧ (nI a.val - nI b.val = 0 ↔ a.val = b.val)) := by decide +kernel
theorem kSubLt {a b : Nat} (ha : a ≤ 10) (hb : b ≤ 10) : (nI a - nI b < 0 ↔ a < b) ∧ (nI a - nI b = 0 ↔ a = b) := kSubF ⟨a, by omega⟩ ⟨b, by omega⟩
/-- who is there: those not sent and these, or all but the other sent ones -/
theorem kThere {ks sv n : Nat} (hks : ks ≤ 10) (hs : sv < 2 ^ ks) (hn : ∀ i : Nat, n.testBit i = true → sv.testBit i = true) : kEvb ks &&& (nI sv ^^^ (-1)) ||| nI n = kPrs ks (nI sv &&& (nI n ^^^ (-1))) := by
  unfold kPrs
  apply Int32.toBitVec_inj.mp
  apply BitVec.eq_of_getLsbD_eq
  intro i hi
  show (((kEvb ks).toBitVec &&& (BitVec.ofNat 32 sv ^^^ BitVec.allOnes 32)) ||| BitVec.ofNat 32 n).getLsbD i = ((kEvb ks).toBitVec &&& ((BitVec.ofNat 32 sv &&& (BitVec.ofNat 32 n ^^^ BitVec.allOnes 32)) ^^^ BitVec.allOnes 32)).getLsbD i
  rw [BitVec.getLsbD_or, BitVec.getLsbD_and, BitVec.getLsbD_xor, BitVec.getLsbD_allOnes, BitVec.getLsbD_and, BitVec.getLsbD_xor, BitVec.getLsbD_and, BitVec.getLsbD_xor, BitVec.getLsbD_allOnes, kEvb_b hks hi, BitVec.getLsbD_ofNat, BitVec.getLsbD_ofNat, decide_eq_true hi, Bool.true_and, Bool.true_and]
  have h1 := hn i
  have h2 : sv.testBit i = true → decide (i < ks) = true := fun z => by
    by_cases y : i < ks
    · exact decide_eq_true y
    · rw [Nat.testBit_lt_two_pow (Nat.lt_of_lt_of_le hs (Nat.pow_le_pow_right (by decide) (by omega)))] at z
      exact absurd z (by decide)
  revert h1 h2
  cases n.testBit i <;> cases sv.testBit i <;> cases decide (i < ks) <;> decide
theorem kThere0 {ks sv : Nat} : kEvb ks &&& (nI sv ^^^ (-1)) ||| 0 = kPrs ks (nI sv) := by
  unfold kPrs
  exact kOr0 _
/-- one who is not sent is there, whoever of the sent ones is away -/
theorem kFrH {ks kw sv j : Nat} {g3 g4 : Nat → Int32} {t : List kTr} {w : Int32} (hks : ks ≤ 10) (hj : j < ks) : (kFr (kE0 ks kw g3 g4 sv (kPrs ks (nI sv &&& w)) t) j = true ↔ kIsB (nI sv) (nI j) = 0) := by
  rw [kFr_t]
  constructor
  · intro z; exact z.2
  · intro z
    refine ⟨?_, z⟩
    show ¬ kIsB (kPrs ks (nI sv &&& w)) (nI j) = 0
    unfold kPrs
    rw [kIsB_and (by omega)]
    constructor
    · rw [kIsB_bit _ (by omega), kEvb_b hks (by omega), decide_eq_true hj]; decide
    · rw [kIsB_bit _ (by omega)] at z ⊢
      show ((nI sv).toBitVec &&& w.toBitVec).getLsbD j = false
      rw [BitVec.getLsbD_and, z, Bool.false_and]
theorem kAndM (x : Int32) : x &&& (-1) = x := Int32.toBitVec_inj.mp (by show x.toBitVec &&& BitVec.allOnes 32 = x.toBitVec; exact BitVec.and_allOnes)
theorem kLkRU {P : Nat → Bool} {i b : Nat} (hi : 1 ≤ i) (hb : b = kLkR P i) (hP : P i = true) (h : kPc b < kPc i ∨ (kPc i = kPc b ∧ kLw i b = true)) : i = kLkR P (i + 1) := by
  rw [kLkR_t hi ⟨hP, by rw [← hb]; exact h⟩]
theorem kLkRN {P : Nat → Bool} {i b : Nat} (hb : b = kLkR P i) (h : ¬ (P i = true ∧ (kPc b < kPc i ∨ (kPc i = kPc b ∧ kLw i b = true)))) : b = kLkR P (i + 1) := by
  rw [kLkR_f (by rw [← hb]; exact h)]
  exact hb
