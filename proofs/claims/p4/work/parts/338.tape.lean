theorem kToB (y : Int32) : (Int32.toInt8 y).toInt32 = kSg (y.toBitVec.toNat % 256) := by
  have h1 : Int32.toInt8 y = Int32.toInt8 (nI (y.toBitVec.toNat % 256)) := by
    apply Int8.toBitVec_inj.mp
    show y.toBitVec.signExtend 8 = (BitVec.ofNat 32 (y.toBitVec.toNat % 256)).signExtend 8
    first
      | rw [BitVec.signExtend_eq_setWidth_of_le _ (by decide), BitVec.signExtend_eq_setWidth_of_le _ (by decide)]
      | rw [BitVec.signExtend_eq_setWidth_of_lt _ (by decide), BitVec.signExtend_eq_setWidth_of_lt _ (by decide)]
    apply BitVec.eq_of_toNat_eq
    rw [BitVec.toNat_setWidth, BitVec.toNat_setWidth, BitVec.toNat_ofNat]
    omega
  rw [h1]
  exact kBy8F ⟨_, Nat.mod_lt _ (by decide)⟩
theorem kByteF : ∀ v : Fin 256, vp_nar .byte (kSg v.val) = kSg v.val := by decide +kernel
theorem kUpM {g g1 : Nat → Int32} {t : Nat → Nat} {k : Nat} {x y p h : Int32} (hk : k < 2 ^ 31) (e : g1 = upd g (Int32.toNatClampNeg (nI k)) (vp_nar .byte x)) (ex : x = (Int32.toInt8 y).toInt32) (ey : y = p >>> (h &&& 31)) (H : ∀ j : Nat, g j = kSg (t j)) : ∀ j : Nat, g1 j = kSg (kUpN t k (kSn p h) j) := fun j => by
  rw [e, nI_clamp hk]
  unfold kUpN
  by_cases z : j = k
  · rw [if_pos z, z, pk_us, ex, ey, kToB]
    exact kByteF ⟨kSn p h, kSn_b p h⟩
  · rw [if_neg z, pk_un z]; exact H j
theorem kTxU {f f1 mf1 : Nat → Int32} {P i : Nat} {x : Int32} {bt : Nat → Nat} (hP : P < 14) (hi : i < 120) (e : f1 = upd f (Int32.toNatClampNeg (nI (120 * P + i))) (vp_nar .byte x)) (ex : x = mf1 (Int32.toNatClampNeg (nI i))) (hb : ∀ j : Nat, mf1 j = kSg (bt j)) (h8 : ∀ j : Nat, bt j < 256) (H : ∀ q : Nat, q < i → f (120 * P + q) = mf1 q) : ∀ q : Nat, q < i + 1 → f1 (120 * P + q) = mf1 q := fun q hq => by
  rw [e, nI_clamp (by omega)]
  by_cases z : q = i
  · rw [z, pk_us, ex, nI_clamp (by omega), hb i]
    exact kByteF ⟨bt i, h8 i⟩
  · rw [pk_un (by omega)]; exact H q (by omega)
theorem kTxO {f f1 mf2 : Nat → Int32} {P i : Nat} {x : Int32} (hP : P < 14) (hi : i < 120) (e : f1 = upd f (Int32.toNatClampNeg (nI (120 * P + i))) x) (H : ∀ q : Nat, q < 120 * P ∨ 120 * P + 120 ≤ q → f q = mf2 q) : ∀ q : Nat, q < 120 * P ∨ 120 * P + 120 ≤ q → f1 q = mf2 q := fun q hq => by
  rw [e, nI_clamp (by omega), pk_un (by omega)]
  exact H q hq
