theorem kToB (y : Int32) : (Int32.toInt8 y).toInt32 = kSg (y.toBitVec.toNat % 256) := by
  have h1 : Int32.toInt8 y = Int32.toInt8 (nI (y.toBitVec.toNat % 256)) := by
    apply Int8.toBitVec_inj.mp
    show y.toBitVec.signExtend 8 = (BitVec.ofNat 32 (y.toBitVec.toNat % 256)).signExtend 8
    first
      | rw [BitVec.signExtend_eq_setWidth_of_le _ (by decide), BitVec.signExtend_eq_setWidth_of_le _ (by decide)]
      | rw [BitVec.signExtend_eq_setWidth_of_lt _ (by decide), BitVec.signExtend_eq_setWidth_of_lt _ (by decide)]
    apply BitVec.eq_of_toNat_eq
    rw [BitVec.toNat_setWidth, BitVec.toNat_setWidth, BitVec.toNat_ofNat]
    omega
  rw [h1]
  exact kBy8F ⟨_, Nat.mod_lt _ (by decide)⟩
theorem kByteF : ∀ v : Fin 256, vp_nar .byte (kSg v.val) = kSg v.val := by decide +kernel
theorem kUpM {g g1 : Nat → Int32} {t : Nat → Nat} {k : Nat} {x y p h : Int32} (hk : k < 2 ^ 31) (e : g1 = upd g (Int32.toNatClampNeg (nI k)) (vp_nar .byte x)) (ex : x = (Int32.toInt8 y).toInt32) (ey : y = p >>> (h &&& 31)) (H : ∀ j : Nat, g j = kSg (t j)) : ∀ j : Nat, g1 j = kSg (kUpN t k (kSn p h) j) := fun j => by
  rw [e, nI_clamp hk]
  unfold kUpN
  by_cases z : j = k
  · rw [if_pos z, z, pk_us, ex, ey, kToB]
    exact kByteF ⟨kSn p h, kSn_b p h⟩
  · rw [if_neg z, pk_un z]; exact H j
