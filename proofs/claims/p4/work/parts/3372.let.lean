theorem kOlV {f f1 : Nat → Int32} {i : Nat} {p x y : Int32} (hi : i < 100) (e : f1 = upd f (Int32.toNatClampNeg (nI (97 + i))) y) (ex : x = p >>> (nI i &&& 31)) (ey : y = x &&& 1) (H : ∀ q : Nat, q < i → f (97 + q) = kOl p q) : ∀ q : Nat, q < i + 1 → f1 (97 + q) = kOl p q := fun q hq => by
  rw [e, nI_clamp (by omega)]
  by_cases z : q = i
  · rw [z, pk_us, ey, ex]; rfl
  · rw [pk_un (by omega)]; exact H q (by omega)
theorem kOl_bd (p : Int32) (k : Nat) : kBd (kOl p k) := by
  obtain ⟨v, hv, e⟩ := pk_andE (p >>> (nI k &&& 31)) (m := 1) 1 (by decide)
  have e2 : kOl p k = nI v := e
  rw [e2]
  have h3 : v < 2 := hv
  rcases (show v = 0 ∨ v = 1 by omega) with z | z
  · rw [z]; exact kBd0
  · rw [z]; exact kBd1
theorem kUn_gd {mf2 mf3 : Nat → Int32} {off k : Nat} {g6 : Nat → Int32} {n6 : Nat} {g7 : Nat → Int32} {n7 : Nat} {y : Nat → List kTr} (hm : n7 ≤ 8) (h : kUn mf2 mf3 off k g6 n6 g7 n7 y) {j : Nat} (hj : j < k) : ∀ z ∈ y j, kGdC n6 n7 z := by
  obtain ⟨sb, sn, _, _, _, _, _, h6, h7⟩ := h j hj
  obtain ⟨o, q, x, c, e⟩ : ∃ (o : Bool) (q : Nat) (x c : List Int32), kRead sb sn g6 n6 g7 n7 = (o, q, x, c) := ⟨_, _, _, _, rfl⟩
  have ho : o = true := by rw [e] at h6; exact h6
  rw [ho] at e
  rw [h7]
  exact (kRead_T hm e).2.2
/-- by what the reference finds whether a turning lets an outcome -/
theorem kIsL {mf4 xE xG : Nat → Int32} {nE nG : Nat} {p r : Int32} {y : List kTr} (hE : nE = 1 ∧ xE 0 = 119) (hG : nG = 5 ∧ ∀ k : Nat, k < 5 → xG k = nI (97 + k)) (hl : ∀ q : Nat, q < 5 → mf4 (97 + q) = kOl p q) (hg : ∀ z ∈ y, kGdC nE nG z) (h : (∀ j : Nat, j < nG → kBd (kLt mf4 xG j)) → r = (kFo (kLt mf4 xG) xE 119 y (0, 0)).1) : r = kWoT (kOl p) 0 y := by
  have hk : ∀ k : Nat, k < nG → kLt mf4 xG k = kOl p k := fun k hk => by
    unfold kLt
    rw [hG.2 k (by omega), nI_clamp (by omega)]
    exact hl k (by omega)
  rw [h (fun j hj => by rw [hk j hj]; exact kOl_bd p j)]
  rw [kFo_wo (lab := 0) y (fun z hz => by
    have h1 : z.1 = 0 := by have h2 := (hg z hz).1; omega
    rw [h1]
    exact ⟨fun _ => rfl, fun _ => hE.2⟩)]
  exact kWoT_c hk y hg
def kI6 (n : Nat) : Int64 := Int64.ofNat n
theorem kI6_or (a b : Nat) : kI6 a ||| kI6 b = kI6 (a ||| b) := Int64.toBitVec_inj.mp (by show BitVec.ofNat 64 a ||| BitVec.ofNat 64 b = BitVec.ofNat 64 (a ||| b); exact BitVec.ofNat_or.symm)
theorem kI6_and (a b : Nat) : kI6 a &&& kI6 b = kI6 (a &&& b) := Int64.toBitVec_inj.mp (by show BitVec.ofNat 64 a &&& BitVec.ofNat 64 b = BitVec.ofNat 64 (a &&& b); exact BitVec.ofNat_and.symm)
theorem kI6_inj {a b : Nat} (ha : a < 2 ^ 32) (hb : b < 2 ^ 32) (h : kI6 a = kI6 b) : a = b := by
  have h1 : (BitVec.ofNat 64 a).toNat = (BitVec.ofNat 64 b).toNat := congrArg BitVec.toNat (congrArg Int64.toBitVec h)
  rw [BitVec.toNat_ofNat, BitVec.toNat_ofNat, Nat.mod_eq_of_lt (by omega), Nat.mod_eq_of_lt (by omega)] at h1
  exact h1
theorem kShlLF : ∀ k : Fin 32, (1 : Int64) <<< (Int32.toInt64 (nI k.val) &&& 63) = kI6 (2 ^ k.val) := by decide +kernel
theorem kBrUL {f : Nat → Int32} {i : Nat} {x y z : Int64} (hi : i < 32) (hx : x = kI6 (kBrN f i)) (hf : f i = 0) (ey : y = (1 : Int64) <<< (Int32.toInt64 (nI i) &&& 63)) (ez : z = x ||| y) : z = kI6 (kBrN f (i + 1)) := by
  have h1 : kBrN f (i + 1) = kBrN f i ||| 2 ^ i := if_pos hf
  rw [h1, ez, hx, ey, kShlLF ⟨i, hi⟩, kI6_or]
theorem kBrSL {f : Nat → Int32} {i : Nat} {x z : Int64} (hx : x = kI6 (kBrN f i)) (hf : ¬ f i = 0) (ez : z = x ||| 0) : z = kI6 (kBrN f (i + 1)) := by
  rw [kBrS hf, ez, hx]
  have h := kI6_or (kBrN f i) 0
  rw [Nat.or_zero] at h
  exact h
theorem kLc0 {a b : Int64} {x : Int32} (e : x = lg_cmp a b) (c : x = 0) : a = b := by
  rw [e] at c
  unfold lg_cmp at c
  by_cases h1 : a > b
  · rw [if_pos h1] at c; exact absurd c (by decide)
  · rw [if_neg h1] at c
    by_cases h2 : a = b
    · exact h2
    · rw [if_neg h2] at c; exact absurd c (by decide)
theorem kLgt_irr (a : Int64) : ¬ a > a := fun h => by
  have h2 := Int64.lt_iff_toInt_lt.mp h
  omega
theorem kLc1 {a b : Int64} {x : Int32} (e : x = lg_cmp a b) (c : ¬ x = 0) : ¬ a = b := fun z => c (by
  rw [e, z]
  unfold lg_cmp
  rw [if_neg (kLgt_irr b), if_pos rfl])
theorem kBolL_0 {x y : Int64} {a b : Nat} (hx : x = kI6 a) (hy : y = kI6 b) (ha : a < 2 ^ 32) (hb : b < 2 ^ 32) (c : x = y) : 0 = kBol a b := by
  have h := kI6_inj ha hb (hx.symm.trans (c.trans hy))
  unfold kBol
  rw [if_pos h]
theorem kBolL_1 {x y z : Int64} {a b : Nat} (hx : x = kI6 a) (hy : y = kI6 b) (hb : b < 2 ^ 32) (c : ¬ x = y) (ez : z = x &&& y) (c2 : z = y) : 1 = kBol a b := by
  have h : ¬ a = b := fun e => c (by rw [hx, hy, e])
  have h2 : a &&& b = b := kI6_inj (Nat.lt_of_le_of_lt Nat.and_le_right hb) hb (by rw [← kI6_and, ← hx, ← hy, ← ez]; exact c2)
  unfold kBol
  rw [if_neg h, if_pos h2]
theorem kBolL_2 {x y z : Int64} {a b : Nat} (hx : x = kI6 a) (hy : y = kI6 b) (c : ¬ x = y) (ez : z = x &&& y) (c2 : ¬ z = y) : 0 = kBol a b := by
  have h : ¬ a = b := fun e => c (by rw [hx, hy, e])
  have h2 : ¬ a &&& b = b := fun e => c2 (by rw [ez, hx, hy, kI6_and, e])
  unfold kBol
  rw [if_neg h, if_neg h2]
