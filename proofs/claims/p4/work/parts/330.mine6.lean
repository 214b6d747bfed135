def kHas (a b : Int32) : Int32 := if (a >>> (b &&& 31)) &&& 1 = 1 then 1 else 0
theorem kHas_nar (a b : Int32) : narrow .boolean (.int (kHas a b)) = .int (kHas a b) := by unfold kHas; split <;> rfl
theorem kRd0 {f : Nat → Int32} {n : Nat} {x v : Int32} (h : n < 2 ^ 31) (e : x = f (Int32.toNatClampNeg (nI n))) (c : x = v) : f n = v := by rw [nI_clamp h] at e; rw [← e]; exact c
theorem kUpdM {f f1 : Nat → Int32} {i : Nat} (hi : i < 2 ^ 31) (e : f1 = upd f (Int32.toNatClampNeg (nI i)) (-1)) (h : ∀ q : Nat, q < i → f q = -1) : ∀ q : Nat, q < i + 1 → f1 q = -1 := fun q hq => by
  rw [e, nI_clamp hi]
  by_cases z : q = i
  · rw [z, pk_us]
  · rw [pk_un z]; exact h q (by omega)
/-- only those not sent tell -/
def kSi (ps : Nat) (f g : Nat → Int32) : Prop := ∀ q : Nat, q < ps → ¬ f q = -1 → g q = 0
theorem kSi_upd {ps j : Nat} {f f1 g : Nat → Int32} {v : Int32} (hj : j < 2 ^ 31) (e : f1 = upd f (Int32.toNatClampNeg (nI j)) v) (hg : g j = 0) (h : kSi ps f g) : kSi ps f1 g := fun q hq hn => by
  by_cases z : q = j
  · rw [z]; exact hg
  · rw [e, nI_clamp hj, pk_un z] at hn; exact h q hq hn
theorem kSi_none {ps : Nat} {f g : Nat → Int32} (h : ∀ q : Nat, q < ps → f q = -1) : kSi ps f g := fun q hq hn => absurd (h q hq) hn
theorem kP10 {n : Nat} (h : n ≤ 10) : 2 ^ n ≤ 1024 := (Nat.pow_le_pow_right (by decide) h : 2 ^ n ≤ 2 ^ 10)
theorem kP6 {n : Nat} (h : n ≤ 6) : 2 ^ n ≤ 64 := (Nat.pow_le_pow_right (by decide) h : 2 ^ n ≤ 2 ^ 6)
theorem kTlU {f f1 : Nat → Int32} {p n : Nat} (hp : p < 2 ^ 31) (hn : n ≤ 120) (e : f1 = upd f (Int32.toNatClampNeg (nI p)) (nI n)) (h : ∀ j : Nat, ∃ v : Nat, v ≤ 120 ∧ f j = nI v) : ∀ j : Nat, ∃ v : Nat, v ≤ 120 ∧ f1 j = nI v := fun q => by
  rw [e, nI_clamp hp]
  by_cases z : q = p
  · exact ⟨n, hn, by rw [z, pk_us]⟩
  · rw [pk_un z]; exact h q
theorem kSaU {ps ku j : Nat} {f f1 : Nat → Int32} {v : Int32} (hj : j < 2 ^ 31) (e : f1 = upd f (Int32.toNatClampNeg (nI j)) v) (hv : ¬ v = -1 → ∃ t : Nat, t < ku ∧ v = nI t) (h : ∀ q : Nat, q < ps → ¬ f q = -1 → ∃ t : Nat, t < ku ∧ f q = nI t) : ∀ q : Nat, q < ps → ¬ f1 q = -1 → ∃ t : Nat, t < ku ∧ f1 q = nI t := fun q hq => by
  rw [e, nI_clamp hj]
  by_cases z : q = j
  · rw [z, pk_us]; exact hv
  · rw [pk_un z]; exact h q hq
theorem kSaP {ps ku : Nat} {f f1 : Nat → Int32} (hj : ps < 2 ^ 31) (e : f1 = upd f (Int32.toNatClampNeg (nI ps)) (-1)) (h : ∀ q : Nat, q < ps → ¬ f q = -1 → ∃ t : Nat, t < ku ∧ f q = nI t) : ∀ q : Nat, q < ps + 1 → ¬ f1 q = -1 → ∃ t : Nat, t < ku ∧ f1 q = nI t := fun q hq => by
  rw [e, nI_clamp hj]
  by_cases z : q = ps
  · rw [z, pk_us]; exact fun y => absurd rfl y
  · rw [pk_un z]; exact h q (by omega)
theorem kNpU {ps kn j : Nat} {f f1 : Nat → Int32} (hk : kn < 2 ^ 31) (hj : j < ps) (e : f1 = upd f (Int32.toNatClampNeg (nI kn)) (nI j)) (h : ∀ k : Nat, k < kn → ∃ v : Nat, v < ps ∧ f k = nI v) : ∀ k : Nat, k < kn + 1 → ∃ v : Nat, v < ps ∧ f1 k = nI v := fun q hq => by
  rw [e, nI_clamp hk]
  by_cases z : q = kn
  · exact ⟨j, hj, by rw [z, pk_us]⟩
  · rw [pk_un z]; exact h q (by omega)
/-- the reference's texts -/
def kMx (ad : Nat → Nat) (bA nA : Nat) (xA : Nat → Int32) (bB nB : Nat) (xB : Nat → Int32) (bE nE : Nat) (xE : Nat → Int32) (bG nG : Nat) (xG : Nat → Int32) (A : Nat → Prop) (U : State) : Prop := kRd ad 5 7 bA nA xA bB nB xB A U ∧ kRd ad 6 8 bE nE xE bG nG xG A U
theorem kMx_blind {ad : Nat → Nat} {bA nA : Nat} {xA : Nat → Int32} {bB nB : Nat} {xB : Nat → Int32} {bE nE : Nat} {xE : Nat → Int32} {bG nG : Nat} {xG : Nat → Int32} {A : Nat → Prop} : ∀ (U : State) (g : JFrame) (mk : MethodId) (a : Array Value), kMx ad bA nA xA bB nB xB bE nE xE bG nG xG A U → kMx ad bA nA xA bB nB xB bE nE xE bG nG xG A (U.calling g mk a) := fun U g mk a h => ⟨kRd_blind U g mk a h.1, kRd_blind U g mk a h.2⟩
theorem kMx_give {ad : Nat → Nat} {bA nA : Nat} {xA : Nat → Int32} {bB nB : Nat} {xB : Nat → Int32} {bE nE : Nat} {xE : Nat → Int32} {bG nG : Nat} {xG : Nat → Int32} {A B : Nat → Prop} {s : State} {H : Heap} {locs : List Loc} (h : kMx ad bA nA xA bB nB xB bE nE xE bG nG xG A s) (hS : va_S A s.heap H locs) (hB : ∀ q, B q → A q) : ∀ U : State, U.heap = H → s.WarmedH U.vm → kMx ad bA nA xA bB nB xB bE nE xE bG nG xG B U := fun U hU hW => ⟨kRd_give h.1 hS hB U hU hW, kRd_give h.2 hS hB U hU hW⟩
theorem kIn_or {p : Int32} (h : ¬ kIn p 0 1 = 0) : p = 0 ∨ p = 1 := by
  obtain ⟨j, hj, e⟩ := kIn_ix (n := 1) (by decide) h
  rcases (show j = 0 ∨ j = 1 by omega) with z | z
  · exact Or.inl (by rw [e, z]; rfl)
  · exact Or.inr (by rw [e, z]; rfl)
theorem kShr1 (x : BitVec 32) (n : Nat) (h : n < 32) (hb : x.getLsbD n = true) : (x.sshiftRight n) &&& 1#32 = 1#32 := by
  ext i hi
  simp only [BitVec.getElem_and, BitVec.getElem_sshiftRight]
  by_cases h0 : i = 0
  · subst h0
    rw [dif_pos (by omega)]
    have e1 : x[n + 0] = true := by
      show x[n] = true
      rw [← BitVec.getLsbD_eq_getElem]; exact hb
    rw [e1]; rfl
  · have h2 : (1#32)[i] = false := by
      rw [← BitVec.getLsbD_eq_getElem]
      have : ∀ j : Fin 32, j.val ≠ 0 → (1#32).getLsbD j.val = false := by decide
      exact this ⟨i, hi⟩ h0
    rw [h2, Bool.and_false]
def kIdx (h : Int32) : Nat := (h.toBitVec &&& 31#32).toNat
theorem kIdx_lt (h : Int32) : kIdx h < 32 := by
  unfold kIdx
  rw [BitVec.toNat_and]
  exact Nat.lt_of_le_of_lt Nat.and_le_right (by decide)
theorem kIdx_eq (h : Int32) : h &&& 31 = nI (kIdx h) := Int32.toBitVec_inj.mp (by
  show h.toBitVec &&& 31#32 = BitVec.ofNat 32 ((h.toBitVec &&& 31#32).toNat)
  rw [BitVec.ofNat_toNat, BitVec.setWidth_eq])
theorem kBitF : ∀ k : Fin 32, ((1 : Int32) <<< (nI k.val)).toBitVec.getLsbD k.val = true := by decide +kernel
theorem kBitNew (h : Int32) : ((1 : Int32) <<< (h &&& 31)).toBitVec.getLsbD (kIdx h) = true := by rw [kIdx_eq]; exact kBitF ⟨kIdx h, kIdx_lt h⟩
theorem kSmodF : ∀ k : Fin 32, ((nI k.val).toBitVec.smod 32#32).toNat = k.val := by decide +kernel
theorem kBitHas {b h : Int32} (hb : b.toBitVec.getLsbD (kIdx h) = true) : kHas b h = 1 := by
  unfold kHas
  rw [if_pos]
  rw [kIdx_eq]
  refine Int32.toBitVec_inj.mp ?_
  show (BitVec.sshiftRight b.toBitVec ((nI (kIdx h)).toBitVec.smod 32#32).toNat) &&& 1#32 = 1#32
  rw [kSmodF ⟨kIdx h, kIdx_lt h⟩]
  exact kShr1 _ _ (kIdx_lt h) hb
theorem kBk1 {S T : Nat → Int32} {i : Nat} {b b1 y : Int32} (e : b1 = b ||| y) (hy : ¬ S i = -1 → y.toBitVec.getLsbD (kIdx (T i)) = true) (h : ∀ q : Nat, q < i → ¬ S q = -1 → b.toBitVec.getLsbD (kIdx (T q)) = true) : ∀ q : Nat, q < i + 1 → ¬ S q = -1 → b1.toBitVec.getLsbD (kIdx (T q)) = true := fun q hq hn => by
  rw [e]
  show (b.toBitVec ||| y.toBitVec).getLsbD _ = true
  rw [BitVec.getLsbD_or]
  by_cases z : q = i
  · rw [z] at hn ⊢; rw [hy hn, Bool.or_true]
  · rw [h q (by omega) hn, Bool.true_or]
theorem kBk2 {S : Nat → Int32} {i : Nat} {b b1 y : Int32} (e : b1 = b ||| y) (hy : S i = -1 → y = 0) (h : (∀ q : Nat, q < i → S q = -1) → b = 0) : (∀ q : Nat, q < i + 1 → S q = -1) → b1 = 0 := fun hq => by
  rw [e, h (fun q hz => hq q (by omega)), hy (hq i (by omega))]; decide
theorem kBkE {S : Nat → Int32} {n : Nat} {b : Int32} (h : (∀ q : Nat, q < n → S q = -1) → b = 0) (c : ¬ b = 0) : ∃ q : Nat, q < n ∧ ¬ S q = -1 := Classical.byContradiction (fun z => c (h (fun q hq => Classical.byContradiction (fun y => z ⟨q, hq, y⟩))))
