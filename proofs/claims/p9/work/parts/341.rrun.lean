/-- what a run of the reference goes by -/
def kRE (E : kEn) (ps kw : Nat) (m22 m24 m25 : Nat → Int32) (th : Int32) : Prop := (E.1 = ps ∧ E.2.1 = kw) ∧ (∀ j : Nat, j < ps → E.2.2.1 j = m22 j) ∧ (∀ i : Nat, i < kw → E.2.2.2.1 i = m24 i) ∧ (∀ j : Nat, j < ps → E.2.2.2.2.1 j = if m25 j = 0 then 0 else 1) ∧ (∀ j : Nat, j < ps → (E.2.2.2.2.2.1 j = 0 ↔ kHas th (nI j) = 0)) ∧ (∀ j : Nat, E.2.2.2.2.1 j = 0 ∨ E.2.2.2.2.1 j = 1) ∧ (∀ i : Nat, i < kw → 0 ≤ (E.2.2.2.1 i).toInt ∧ (E.2.2.2.1 i).toInt ≤ 47)
/-- the letters' signs -/
def kSg8 (k : Nat) : Nat := if k = 0 then 118 else if k = 1 then 112 else if k = 2 then 110 else if k = 3 then 109 else if k = 4 then 115 else if k = 5 then 117 else if k = 6 then 100 else 105
theorem kSg8_c : ∀ k : Nat, k < 8 → kSg8 k < 128 := fun k hk => by
  rcases (show k = 0 ∨ k = 1 ∨ k = 2 ∨ k = 3 ∨ k = 4 ∨ k = 5 ∨ k = 6 ∨ k = 7 by omega) with z | z | z | z | z | z | z | z <;> (rw [z]; decide)
/-- what a label is worth, as the reference finds it -/
theorem kYyR {E : kEn} {S : kRst} {j lab : Nat} {mf4 xA xB : Nat → Int32} {nA nB : Nat} {p r : Int32} {y : List kTr} (hA : nA = 3 ∧ xA 0 = 121 ∧ xA 1 = 103 ∧ xA 2 = 120) (hB : nB = 8 ∧ ∀ k : Nat, k < 8 → xB k = nI (kSg8 k)) (hl : ∀ k : Nat, k < 8 → mf4 (kSg8 k) = kLe E S j k) (hb : ∀ k : Nat, kBd (kLe E S j k)) (hg : ∀ z ∈ y, kGdC nA nB z) (hy : E.2.2.2.2.2.2 = y) (hp : (lab = 0 ∧ p = 121) ∨ (lab = 1 ∧ p = 103) ∨ (lab = 2 ∧ p = 120)) (h : (∀ q : Nat, q < nB → kBd (kLt mf4 xB q)) → r = (kFo (kLt mf4 xB) xA p y (0, 0)).1) : r = kYy E S lab j := by
  have hk : ∀ k : Nat, k < nB → kLt mf4 xB k = kLe E S j k := fun k hk => by
    unfold kLt
    rw [hB.2 k (by omega), nI_clamp (by have := kSg8_c k (by omega); omega)]
    exact hl k (by omega)
  rw [h (fun q hq => by rw [hk q hq]; exact hb q)]
  rw [kFo_wo (lab := lab) y (fun z hz => by
    have h1 : z.1 < nA := (hg z hz).1
    have h3 : z.1 = 0 ∨ z.1 = 1 ∨ z.1 = 2 := by omega
    rcases hp with ⟨e1, e2⟩ | ⟨e1, e2⟩ | ⟨e1, e2⟩ <;> rcases h3 with q | q | q <;> rw [q, e1, e2]
    · exact ⟨fun _ => rfl, fun _ => hA.2.1⟩
    · rw [hA.2.2.1]; exact ⟨fun t => absurd t (by decide), fun t => absurd t (by decide)⟩
    · rw [hA.2.2.2]; exact ⟨fun t => absurd t (by decide), fun t => absurd t (by decide)⟩
    · rw [hA.2.1]; exact ⟨fun t => absurd t (by decide), fun t => absurd t (by decide)⟩
    · exact ⟨fun _ => rfl, fun _ => hA.2.2.1⟩
    · rw [hA.2.2.2]; exact ⟨fun t => absurd t (by decide), fun t => absurd t (by decide)⟩
    · rw [hA.2.1]; exact ⟨fun t => absurd t (by decide), fun t => absurd t (by decide)⟩
    · rw [hA.2.2.1]; exact ⟨fun t => absurd t (by decide), fun t => absurd t (by decide)⟩
    · exact ⟨fun _ => rfl, fun _ => hA.2.2.2⟩)]
  unfold kYy
  rw [hy]
  exact kWoT_c hk y hg
theorem kHas_B (a : Int32) {j : Nat} (hj : j < 32) : (kHas a (nI j) = 0 ↔ kIsB a (nI j) = 0) := by
  rw [kIsB_bit a hj]
  unfold kHas
  cases hb : a.toBitVec.getLsbD j with
  | false =>
    have e : a >>> (nI j &&& 31) &&& 1 = 0 := Int32.toBitVec_inj.mp (by rw [kShB a hj]; exact kSh0 _ _ hb hj)
    rw [if_neg (fun z => absurd (e.symm.trans z) (by decide))]
    exact ⟨fun _ => rfl, fun _ => rfl⟩
  | true =>
    have e : a >>> (nI j &&& 31) &&& 1 = 1 := Int32.toBitVec_inj.mp (by rw [kShB a hj]; exact kSh1 _ _ hb hj)
    rw [if_pos e]
    exact ⟨fun z => absurd z (by decide), fun z => absurd z (by decide)⟩
theorem kRp_tr {ks n : Nat} {S : kRst} {a b c d h p l t : Nat → Int32} {x : Int64} (H : kRp ks (a, b, c, d, x, n) h p l t) (H2 : kRp ks S a b c d) : kRp ks S h p l t := fun j hj => by
  obtain ⟨q1, q2, q3, q4⟩ := H j hj
  obtain ⟨z1, z2, z3, z4⟩ := H2 j hj
  exact ⟨q1.trans z1, q2.trans z2, q3.trans z3, q4.trans z4⟩
/-- the told rows of both sides -/
def kTd (ks kw : Nat) (g0 g1 g2 g3 g4 : Nat → Int32) (sv : Nat) (m19 m20 m21 m22 m24 m25 : Nat → Int32) : Prop := (∀ j : Nat, j < ks → m19 j = g0 j ∧ m20 j = g1 j ∧ m21 j = g2 j ∧ m22 j = g3 j ∧ (kIsB (nI sv) (nI j) = if m25 j = 0 then 0 else 1)) ∧ (∀ i : Nat, i < kw → m24 i = g4 i ∧ 0 ≤ (g4 i).toInt ∧ (g4 i).toInt ≤ 47) ∧ sv < 2 ^ ks
theorem kTd_E {ks kw sv : Nat} {g0 g1 g2 g3 g4 m19 m20 m21 m22 m24 m25 : Nat → Int32} {ab th : Int32} {t : List kTr} (H : kTd ks kw g0 g1 g2 g3 g4 sv m19 m20 m21 m22 m24 m25) (hks : ks ≤ 10) (hth : th = kPrs ks ab) : kRE (kE0 ks kw g3 g4 sv (kPrs ks ab) t) ks kw m22 m24 m25 th := ⟨⟨rfl, rfl⟩, fun j hj => (H.1 j hj).2.2.2.1.symm, fun i hi => (H.2.1 i hi).1.symm, fun j hj => (H.1 j hj).2.2.2.2, fun j hj => by rw [hth]; exact (kHas_B _ (by omega)).symm, fun j => kIsB_01 _ _, fun i hi => (H.2.1 i hi).2⟩
theorem kTd_S {ks kw sv : Nat} {g0 g1 g2 g3 g4 m19 m20 m21 m22 m24 m25 : Nat → Int32} {x : Int64} (H : kTd ks kw g0 g1 g2 g3 g4 sv m19 m20 m21 m22 m24 m25) : kRp ks (kS0 g0 g1 g2 x) m19 m20 m21 (fun _ => -1) := fun j hj => ⟨(H.1 j hj).1, (H.1 j hj).2.1, (H.1 j hj).2.2.1, rfl⟩
theorem kTd_se {ks kw sv j : Nat} {g0 g1 g2 g3 g4 m19 m20 m21 m22 m24 m25 : Nat → Int32} (H : kTd ks kw g0 g1 g2 g3 g4 sv m19 m20 m21 m22 m24 m25) (hj : j < ks) : (kIsB (nI sv) (nI j) = 0 ↔ m25 j = 0) := by
  rw [(H.1 j hj).2.2.2.2]
  by_cases z : m25 j = 0
  · rw [if_pos z]; exact ⟨fun _ => z, fun _ => rfl⟩
  · rw [if_neg z]; exact ⟨fun y => absurd y (by decide), fun y => absurd y z⟩
theorem kOr0 (x : Int32) : x ||| 0 = x := Int32.toBitVec_inj.mp (by show x.toBitVec ||| 0#32 = x.toBitVec; exact BitVec.or_zero)
theorem kBtsO {c : Nat → Bool} {i : Nat} {x z : Int32} (hx : x = nI (kBts c i)) (hc : ¬ c i = true) (ez : z = x ||| 0) : z = nI (kBts c (i + 1)) := by rw [kBts_f hc, ez, kOr0, hx]
theorem kTh1 {E r V : Int32} (h : E = 1) : 1 = E ∧ (E = 0 → r = V) := ⟨h.symm, fun z => absurd (h.symm.trans z) (by decide)⟩
theorem kTh0 {E r V : Int32} (h : E = 0) (hv : r = V) : 0 = E ∧ (E = 0 → r = V) := ⟨h.symm, fun _ => hv⟩
/-- one place of the row of ways, from above, as the reference reckons it -/
theorem kWsR {w l l1 : Nat → Int64} {c : Int32} {k k1 : Int32} {i : Nat} {x1 x2 zc z1 m1 m2 v : Int64} (hk : Int32.toNatClampNeg k = i) (hk1 : Int32.toNatClampNeg k1 = i - 1) (hi : 1 ≤ i) (hi8 : i ≤ 8) (ezc : zc = Int32.toInt64 c) (ex1 : x1 = l (Int32.toNatClampNeg k)) (ez1 : z1 = 100 - zc) (em1 : m1 = x1 * z1) (ex2 : x2 = l (Int32.toNatClampNeg k1)) (em2 : m2 = x2 * zc) (ev : v = m1 + m2) (el : l1 = vp_updL l (Int32.toNatClampNeg k) v) (H : ∀ q : Nat, q ≤ 8 → l q = if i < q then kWs w c q else w q) : ∀ q : Nat, q ≤ 8 → l1 q = if i - 1 < q then kWs w c q else w q := fun q hq => by
  rw [hk] at ex1 el
  rw [hk1] at ex2
  rw [el]
  by_cases z : q = i
  · rw [z, pk_uLs, if_pos (by omega), ev, em1, em2, ex1, ex2, ez1, ezc, H i hi8, H (i - 1) (by omega), if_neg (by omega), if_neg (by omega)]
    unfold kWs
    rw [if_neg (by omega)]
  · rw [pk_uLn z, H q hq]
    by_cases y2 : i < q
    · rw [if_pos y2, if_pos (by omega)]
    · rw [if_neg y2, if_neg (by omega)]
theorem kWsR0 {w l l1 : Nat → Int64} {c : Int32} {x1 zc z1 m1 v : Int64} (ezc : zc = Int32.toInt64 c) (ex1 : x1 = l (Int32.toNatClampNeg 0)) (ez1 : z1 = 100 - zc) (em1 : m1 = x1 * z1) (ev : v = m1 + 0) (el : l1 = vp_updL l (Int32.toNatClampNeg 0) v) (H : ∀ q : Nat, q ≤ 8 → l q = if 0 < q then kWs w c q else w q) : ∀ q : Nat, q ≤ 8 → l1 q = kWs w c q := fun q hq => by
  rw [show Int32.toNatClampNeg 0 = 0 by decide] at ex1 el
  rw [el]
  by_cases z : q = 0
  · rw [z, pk_uLs, ev, em1, ex1, ez1, ezc, H 0 (by omega), if_neg (by omega)]
    unfold kWs
    rw [if_pos rfl]
  · rw [pk_uLn z, H q hq, if_pos (by omega)]
theorem kWsI9 {w : Nat → Int64} {c : Int32} : ∀ q : Nat, q ≤ 8 → w q = if 8 < q then kWs w c q else w q := fun q hq => by rw [if_neg (by omega)]
theorem kWyI1 {f f1 : Nat → Int64} {i : Nat} {v : Int64} (hi : i < 2 ^ 31) (e : f1 = vp_updL f (Int32.toNatClampNeg (nI i)) v) (hv : v = if i = 0 then 1 else 0) (H : ∀ q : Nat, q < i → f q = if q = 0 then 1 else 0) : ∀ q : Nat, q < i + 1 → f1 q = if q = 0 then 1 else 0 := fun q hq => by
  rw [e, nI_clamp hi]
  by_cases z : q = i
  · rw [z, pk_uLs]; exact hv
  · rw [pk_uLn z]; exact H q (by omega)
theorem kIt_j {E : kEn} {S : kRst} {a b c : Nat} (h : a + b = c) : kIt E a (kIt E b S) = kIt E c S := by
  subst h
  induction a with
  | zero => rw [Nat.zero_add]; rfl
  | succ a ih =>
    rw [Nat.succ_add]
    show kStp E (kIt E a (kIt E b S)) = kStp E (kIt E (a + b) S)
    rw [ih]
theorem kAbN_y {w : Int32} {g q0 : Nat → Int32} {ks n v : Nat} (h : ¬ w = 0) (e : q0 n = nI v) (hv : v < 2 ^ 31) (h2 : kAlR g v ks = true) : kAbN w g q0 ks n = true := by
  unfold kAbN
  rw [if_neg h, e, nI_clamp hv]
  exact h2
theorem kAbN_n {w : Int32} {g q0 : Nat → Int32} {ks n v : Nat} (h : ¬ w = 0) (e : q0 n = nI v) (hv : v < 2 ^ 31) (h2 : ¬ kAlR g v ks = true) : ¬ kAbN w g q0 ks n = true := by
  unfold kAbN
  rw [if_neg h, e, nI_clamp hv]
  exact h2
theorem kAbN_c {w : Int32} {g g2 q0 : Nat → Int32} {ks n kn : Nat} (hn : n < kn) (hN : ∀ k : Nat, k < kn → ∃ v : Nat, v < ks ∧ q0 k = nI v) (hks : ks ≤ 10) (H : ∀ o : Nat, o < ks → g o = g2 o) : kAbN w g q0 ks n = kAbN w g2 q0 ks n := by
  obtain ⟨v, hv, e⟩ := hN n hn
  unfold kAbN
  rw [e, nI_clamp (by omega), kAlR_c hv H ks (Nat.le_refl _)]
theorem kSubF : ∀ a b : Fin 11, ((nI a.val - nI b.val < 0 ↔ a.val < b.val) ∧ (nI a.val - nI b.val = 0 ↔ a.val = b.val)) := by decide +kernel
theorem kSubLt {a b : Nat} (ha : a ≤ 10) (hb : b ≤ 10) : (nI a - nI b < 0 ↔ a < b) ∧ (nI a - nI b = 0 ↔ a = b) := kSubF ⟨a, by omega⟩ ⟨b, by omega⟩
/-- who is there: those not sent and these, or all but the other sent ones -/
theorem kThere {ks sv n : Nat} (hks : ks ≤ 10) (hs : sv < 2 ^ ks) (hn : ∀ i : Nat, n.testBit i = true → sv.testBit i = true) : kEvb ks &&& (nI sv ^^^ (-1)) ||| nI n = kPrs ks (nI sv &&& (nI n ^^^ (-1))) := by
  unfold kPrs
  apply Int32.toBitVec_inj.mp
  apply BitVec.eq_of_getLsbD_eq
  intro i hi
  show (((kEvb ks).toBitVec &&& (BitVec.ofNat 32 sv ^^^ BitVec.allOnes 32)) ||| BitVec.ofNat 32 n).getLsbD i = ((kEvb ks).toBitVec &&& ((BitVec.ofNat 32 sv &&& (BitVec.ofNat 32 n ^^^ BitVec.allOnes 32)) ^^^ BitVec.allOnes 32)).getLsbD i
  rw [BitVec.getLsbD_or, BitVec.getLsbD_and, BitVec.getLsbD_xor, BitVec.getLsbD_allOnes, BitVec.getLsbD_and, BitVec.getLsbD_xor, BitVec.getLsbD_and, BitVec.getLsbD_xor, BitVec.getLsbD_allOnes, kEvb_b hks hi, BitVec.getLsbD_ofNat, BitVec.getLsbD_ofNat, decide_eq_true hi, Bool.true_and, Bool.true_and]
  have h1 := hn i
  have h2 : sv.testBit i = true → decide (i < ks) = true := fun z => by
    by_cases y : i < ks
    · exact decide_eq_true y
    · rw [Nat.testBit_lt_two_pow (Nat.lt_of_lt_of_le hs (Nat.pow_le_pow_right (by decide) (by omega)))] at z
      exact absurd z (by decide)
  revert h1 h2
  cases n.testBit i <;> cases sv.testBit i <;> cases decide (i < ks) <;> decide
theorem kThere0 {ks sv : Nat} : kEvb ks &&& (nI sv ^^^ (-1)) ||| 0 = kPrs ks (nI sv) := by
  unfold kPrs
  exact kOr0 _
/-- one who is not sent is there, whoever of the sent ones is away -/
theorem kFrH {ks kw sv j : Nat} {g3 g4 : Nat → Int32} {t : List kTr} {w : Int32} (hks : ks ≤ 10) (hj : j < ks) : (kFr (kE0 ks kw g3 g4 sv (kPrs ks (nI sv &&& w)) t) j = true ↔ kIsB (nI sv) (nI j) = 0) := by
  rw [kFr_t]
  constructor
  · intro z; exact z.2
  · intro z
    refine ⟨?_, z⟩
    show ¬ kIsB (kPrs ks (nI sv &&& w)) (nI j) = 0
    unfold kPrs
    rw [kIsB_and (by omega)]
    constructor
    · rw [kIsB_bit _ (by omega), kEvb_b hks (by omega), decide_eq_true hj]; decide
    · rw [kIsB_bit _ (by omega)] at z ⊢
      show ((nI sv).toBitVec &&& w.toBitVec).getLsbD j = false
      rw [BitVec.getLsbD_and, z, Bool.false_and]
theorem kAndM (x : Int32) : x &&& (-1) = x := Int32.toBitVec_inj.mp (by show x.toBitVec &&& BitVec.allOnes 32 = x.toBitVec; exact BitVec.and_allOnes)
theorem kLkRU {P : Nat → Bool} {i b : Nat} (hi : 1 ≤ i) (hb : b = kLkR P i) (hP : P i = true) (h : kPc b < kPc i ∨ (kPc i = kPc b ∧ kLw i b = true)) : i = kLkR P (i + 1) := by
  rw [kLkR_t hi ⟨hP, by rw [← hb]; exact h⟩]
theorem kLkRN {P : Nat → Bool} {i b : Nat} (hb : b = kLkR P i) (h : ¬ (P i = true ∧ (kPc b < kPc i ∨ (kPc i = kPc b ∧ kLw i b = true)))) : b = kLkR P (i + 1) := by
  rw [kLkR_f (by rw [← hb]; exact h)]
  exact hb

