/-- a byte of a word, as the reference shifts it -/
def kS (x k : Int32) : Int32 := (x >>> (k &&& 31)) &&& 255
def kC1 (x k : Int32) : Nat := if kS x k = 0 then 0 else 1
/-- how many bytes of a word are not 0 -/
def kCnt (x : Int32) : Nat := kC1 x 24 + kC1 x 16 + kC1 x 8 + kC1 x 0
theorem kC1_le (x k : Int32) : kC1 x k ≤ 1 := by unfold kC1; split <;> omega
theorem kCnt_le (x : Int32) : kCnt x ≤ 4 := by
  have h1 := kC1_le x 24; have h2 := kC1_le x 16; have h3 := kC1_le x 8; have h4 := kC1_le x 0
  unfold kCnt; omega
theorem kSu_255 : ∀ j : Fin 32, 8 ≤ j.val → (255#32).getLsbD j.val = false := by decide
theorem kSu_aux (x : BitVec 32) (k : Nat) (hk : k + 8 ≤ 32) : (x >>> k) &&& 255#32 = (x.sshiftRight k) &&& 255#32 := by
  ext i hi
  simp only [BitVec.getElem_and, BitVec.getElem_ushiftRight, BitVec.getElem_sshiftRight]
  by_cases h8 : i < 8
  · rw [dif_pos (by omega)]
    simp [BitVec.getLsbD_eq_getElem (show k + i < 32 by omega)]
  · have h2 : (255#32)[i] = false := by
      have h3 := kSu_255 ⟨i, hi⟩ (by simpa using h8)
      rw [← BitVec.getLsbD_eq_getElem]
      exact h3
    rw [h2, Bool.and_false, Bool.and_false]
theorem kSu24 (x : Int32) : (x.toUInt32 >>> (Int32.toUInt32 24 &&& Int32.toUInt32 31)).toInt32 &&& 255 = kS x 24 := Int32.toBitVec_inj.mp (kSu_aux x.toBitVec 24 (by decide))
theorem kSu16 (x : Int32) : (x.toUInt32 >>> (Int32.toUInt32 16 &&& Int32.toUInt32 31)).toInt32 &&& 255 = kS x 16 := Int32.toBitVec_inj.mp (kSu_aux x.toBitVec 16 (by decide))
theorem kSu8 (x : Int32) : (x.toUInt32 >>> (Int32.toUInt32 8 &&& Int32.toUInt32 31)).toInt32 &&& 255 = kS x 8 := Int32.toBitVec_inj.mp (kSu_aux x.toBitVec 8 (by decide))
theorem kSu0 (x : Int32) : (x.toUInt32 >>> (Int32.toUInt32 0 &&& Int32.toUInt32 31)).toInt32 &&& 255 = kS x 0 := Int32.toBitVec_inj.mp (kSu_aux x.toBitVec 0 (by decide))
/-- a byte of a word, as a natural -/
def kSn (x k : Int32) : Nat := (x >>> (k &&& 31)).toBitVec.toNat % 256
theorem kS_n (x k : Int32) : kS x k = nI (kSn x k) := pk_and _ 8 (by decide)
theorem kSn_b (x k : Int32) : kSn x k < 256 := Nat.mod_lt _ (by decide)
theorem kSn_1 {x k : Int32} (h : ¬ kS x k = 0) : 1 ≤ kSn x k := Nat.pos_of_ne_zero (fun z => h (by rw [kS_n, z]; rfl))
def kUpN (t : Nat → Nat) (k v : Nat) : Nat → Nat := fun j => if j = k then v else t j
def kP1 (x k : Int32) (s : (Nat → Nat) × Nat) : (Nat → Nat) × Nat := if kS x k = 0 then s else (kUpN s.1 s.2 (kSn x k), s.2 + 1)
def kPut (x : Int32) (s : (Nat → Nat) × Nat) : (Nat → Nat) × Nat := kP1 x 0 (kP1 x 8 (kP1 x 16 (kP1 x 24 s)))
theorem kP1_z {x k : Int32} {s : (Nat → Nat) × Nat} (h : kS x k = 0) : kP1 x k s = s := if_pos h
theorem kP1_n {x k : Int32} {t : Nat → Nat} {n : Nat} (h : ¬ kS x k = 0) : kP1 x k (t, n) = (kUpN t n (kSn x k), n + 1) := if_neg h
def kFed (a b c d e : Int32) (t : Nat → Nat) (k : Nat) : (Nat → Nat) × Nat := if 120 < k + (kCnt a + kCnt b + kCnt c + kCnt d + kCnt e) then (t, k) else kPut e (kPut d (kPut c (kPut b (kPut a (t, k)))))
def kFeA (a b c d e : Int32) (k k1 : Nat) : Int32 := if 120 < k + (kCnt a + kCnt b + kCnt c + kCnt d + kCnt e) then -1 else nI k1
/-- bytes stand where the tape is -/
def kNz (s : (Nat → Nat) × Nat) : Prop := ∀ j : Nat, j < s.2 → 1 ≤ s.1 j
theorem kP1_nz {x k : Int32} {s : (Nat → Nat) × Nat} (h : kNz s) : kNz (kP1 x k s) := by
  unfold kP1
  split
  · exact h
  · next z =>
    intro j hj
    show 1 ≤ kUpN s.1 s.2 (kSn x k) j
    unfold kUpN
    split
    · exact kSn_1 z
    · exact h j (by have hj2 : j < s.2 + 1 := hj; omega)
theorem kFed_nz {a b c d e : Int32} {t : Nat → Nat} {k : Nat} (h : ∀ j : Nat, j < k → 1 ≤ t j) : kNz (kFed a b c d e t k) := by
  have h0 : kNz (t, k) := h
  unfold kFed
  split
  · exact h0
  · unfold kPut
    exact kP1_nz (kP1_nz (kP1_nz (kP1_nz (kP1_nz (kP1_nz (kP1_nz (kP1_nz (kP1_nz (kP1_nz (kP1_nz (kP1_nz (kP1_nz (kP1_nz (kP1_nz (kP1_nz (kP1_nz (kP1_nz (kP1_nz (kP1_nz h0)))))))))))))))))))
theorem kCharF : ∀ v : Fin 256, vp_nar .char ((Int32.toUInt32 (nI v.val) % 65536).toInt32) = nI v.val := by decide +kernel
theorem kUpB {g g1 : Nat → Int32} {t : Nat → Nat} {k : Nat} {x y p h : Int32} (hk : k < 2 ^ 31) (e : g1 = upd g (Int32.toNatClampNeg (nI k)) (vp_nar .char x)) (ex : x = (Int32.toUInt32 y % 65536).toInt32) (hy : kS p h = y) (H : ∀ j : Nat, g j = nI (t j)) : ∀ j : Nat, g1 j = nI (kUpN t k (kSn p h) j) := fun j => by
  rw [e, nI_clamp hk]
  unfold kUpN
  by_cases z : j = k
  · rw [if_pos z, z, pk_us, ex, ← hy, kS_n]
    exact kCharF ⟨kSn p h, kSn_b p h⟩
  · rw [if_neg z, pk_un z]; exact H j
theorem kUp8 {t : Nat → Nat} {k : Nat} {p h : Int32} (H : ∀ j : Nat, t j < 256) : ∀ j : Nat, kUpN t k (kSn p h) j < 256 := fun j => by
  unfold kUpN
  split
  · exact kSn_b p h
  · exact H j
theorem kHgT {g : Nat → Int32} {t : Nat → Nat} (h : ∀ j : Nat, g j = nI (t j)) (h8 : ∀ j : Nat, t j < 256) : ∀ j : Nat, narrow .char (.int (g j)) = .int (g j) := fun j => by rw [h j]; exact kNarCh (h8 j)
/-- what end answers, and how long the tape is then -/
def kEnA (n : Int32) (k : Nat) : Int32 := if n < 0 then 0 else if nI k < n then 0 else 1
def kEnK (n : Int32) (k : Nat) : Nat := if n < 0 then k else if nI k < n then k else Int32.toNatClampNeg n
/-- what a told text becomes: nothing, a law, a turning -/
def kTc (s : Int32) (o0 o1 : Bool) (kl ku : Nat) : Nat := if s = 0 then (if kl < 6 then (if o0 then 1 else 0) else 0) else if s = 1 then (if ku < 8 then (if o1 then 2 else 0) else 0) else 0
def kTcA (c kl ku : Nat) : Int32 := if c = 1 then nI kl else if c = 2 then nI ku else -1
def kTcT (c kt : Nat) : Nat := if c = 0 then kt else 0
def kTcL (c kl : Nat) : Nat := if c = 1 then kl + 1 else kl
def kTcU (c ku : Nat) : Nat := if c = 2 then ku + 1 else ku
def kFtA (s : Int32) (o0 : Bool) (p0 : Nat) (o1 : Bool) (p1 : Nat) : Int32 := if s = 0 then kFt o0 p0 else if s = 1 then kFt o1 p1 else -2
theorem kFt_t {xo : Bool} {p : Nat} (hp : p < 2 ^ 31) (h : kFt xo p = -1) : xo = true := by
  cases xo with
  | true => rfl
  | false =>
    have h1 := nI_toInt hp
    have h0 : nI p = -1 := h
    rw [h0] at h1
    have h2 : ((-1 : Int32)).toInt = -1 := by decide
    rw [h2] at h1
    omega
theorem kFt_f {xo : Bool} {p : Nat} (h : ¬ kFt xo p = -1) : xo = false := by
  cases xo with
  | true => exact absurd rfl h
  | false => rfl
def kCtA (w : Int32) (kl ku ks kw kn ka kt : Nat) : Int32 := if w = 0 then nI kl else if w = 1 then nI ku else if w = 2 then nI ks else if w = 3 then nI kw else if w = 4 then nI kn else if w = 5 then nI ka else if w = 6 then nI kt else -1
