/-- a byte as the reference keeps it -/
def kSg (v : Nat) : Int32 := if v < 128 then nI v else nI v - 256
theorem kSg32F : ∀ v : Fin 256, (kSg v.val = 32 ↔ v.val = 32) := by decide +kernel
theorem kSgAF : ∀ v : Fin 256, kSg v.val &&& 255 = nI v.val := by decide +kernel
theorem kSgLF : ∀ v : Fin 256, (¬ kSg v.val < 48 ∧ ¬ 57 < kSg v.val) ↔ (48 ≤ v.val ∧ v.val ≤ 57) := by decide +kernel
theorem kSgDF : ∀ v : Fin 256, (48 ≤ v.val ∧ v.val ≤ 57) → kSg v.val = nI v.val := by decide +kernel
theorem kSg32 {v : Nat} (h : v < 256) : (kSg v = 32 ↔ v = 32) := kSg32F ⟨v, h⟩
theorem kSgA {v : Nat} (h : v < 256) : kSg v &&& 255 = nI v := kSgAF ⟨v, h⟩
theorem kSgL {v : Nat} (h : v < 256) : (¬ kSg v < 48 ∧ ¬ 57 < kSg v) ↔ (48 ≤ v ∧ v ≤ 57) := kSgLF ⟨v, h⟩
theorem kSgD {v : Nat} (h : v < 256) (hd : 48 ≤ v ∧ v ≤ 57) : kSg v = nI v := kSgDF ⟨v, h⟩ hd
/-- what the reference's look answers -/
def kLr (ch : Nat) : Int32 := if ch = 0 then -1 else nI ch
theorem kLr_p {ch : Nat} (h : 1 ≤ ch) : kLr ch = nI ch := if_neg (by omega)
theorem kLr_e {r : Int32} {ch k : Nat} (h : r = kLr ch) (hc : ch < 256) (hk : 0 < k ∧ k < 256) (e : r = nI k) : ch = k := by
  by_cases z : ch = 0
  · exfalso
    rw [h, z] at e
    exact kNeM (n := k) (by omega) e.symm
  · rw [h, kLr_p (by omega)] at e
    exact keq (a := ch) (b := k) (by omega) (by omega) e
theorem kLr_n {r : Int32} {ch k : Nat} (h : r = kLr ch) (_hc : ch < 256) (hk : 0 < k ∧ k < 256) (e : ¬ r = nI k) : ¬ ch = k := fun z => e (by rw [h, z, kLr_p (by omega)])
theorem kLr_m0 {r : Int32} {ch : Nat} (h : r = kLr ch) (hc : ch < 256) (e : r = -1) : ch = 0 := by
  by_cases z : ch = 0
  · exact z
  · exfalso
    rw [h, kLr_p (by omega)] at e
    exact kNeM (n := ch) (by omega) e
theorem kLr_m1 {r : Int32} {ch : Nat} (h : r = kLr ch) (_hc : ch < 256) (e : ¬ r = -1) : ¬ ch = 0 := fun z => e (by rw [h, z]; rfl)
theorem kLr_j {r : Int32} {ch j : Nat} (h : r = kLr ch) (hc : ch < 256) (hj : j < 128) (e : r = nI j) : r = nI ch ∧ ch < 128 := by
  by_cases z : ch = 0
  · exfalso
    rw [h, z] at e
    exact kNeM (n := j) (by omega) e.symm
  · rw [h, kLr_p (by omega)] at e
    have := keq (a := ch) (b := j) (by omega) (by omega) e
    exact ⟨by rw [h, kLr_p (by omega)], by omega⟩
theorem kAt_in {b : Nat → Nat} {n p : Nat} (h : p < n) : kAt b n p = b p := if_pos h
theorem kFd_none {g : Nat → Int32} {c : Int32} (h : ∀ j, ¬ g j = c) : ∀ f j, kFd g c f j = j + f := by
  intro f
  induction f with
  | zero => intro j; rfl
  | succ f ih => intro j; rw [kFd_s (h j), ih]; omega
theorem kIx_lr {g : Nat → Int32} {n : Nat} {r : Int32} {ch : Nat} (hg : ∀ k : Nat, ∃ v : Nat, v < 128 ∧ g k = nI v) (hz : kIx g n (nI 0) = n) (h : r = kLr ch) : kIx g n r = kIx g n (nI ch) := by
  by_cases z : ch = 0
  · rw [z, hz, h, z]
    show kFd g (-1) n 0 = n
    rw [kFd_none (fun j e => by obtain ⟨v, hv, e2⟩ := hg j; exact kNeM (n := v) (by omega) (e2.symm.trans e))]
    omega
  · rw [h, kLr_p (by omega)]
/-- what a reading method of the reference says of its reading -/
def kPM (X : kRes) (en a : Nat) (dp : Int32) (xo : Bool) (a1 : Nat) (xl : List Int32) (xf xd : Int32) : Prop := X = (xo, a1, xl) ∧ a1 ≤ en ∧ (xo = true → xf = -1 ∧ xd = dp ∧ a + xl.length ≤ a1 ∧ a < a1) ∧ (xo = false → xf = nI a1 ∧ xl = [])
theorem kPM_f {X : kRes} {en a P : Nat} {dp xd : Int32} (h : X = (false, P, [])) (hP : P ≤ en) : kPM X en a dp false P [] (nI P) xd := ⟨h, hP, fun z => absurd z (by decide), fun _ => ⟨rfl, rfl⟩⟩
theorem kPM_t {X : kRes} {en a P : Nat} {dp : Int32} {xl : List Int32} {A : Nat → kRes} (hX : X = A a) (hg : kGood en A) (hp : a ≤ en) (h : X = (true, P, xl)) : kPM X en a dp true P xl (-1) dp := by
  have h1 := hg a hp
  rw [← hX, h] at h1
  exact ⟨h, h1.1, fun _ => ⟨rfl, rfl, (h1.2 rfl).1, (h1.2 rfl).2⟩, fun z => absurd z (by decide)⟩
/-- a sum and a comparison behind it -/
def kCmpS (b : Nat → Nat) (n : Nat) (g : Nat → Int32) (m e p : Nat) : kRes := kTh (kSumD b n g m e p) (fun q l => kCmp b n g m e q l)
theorem kCmpS_good {b : Nat → Nat} {n : Nat} {g : Nat → Int32} {m : Nat} (hg : kIx g m (nI 0) = m) (e : Nat) : kGood n (kCmpS b n g m e) := by
  intro p hp
  have h3 := kSumD_good (b := b) hg e p hp
  exact kTh_good h3.1 (fun z => kCmp_good hg _ h3.1 (by have := (h3.2 z).1; omega))
