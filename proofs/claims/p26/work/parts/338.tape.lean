theorem kToB (y : Int32) : (Int32.toInt8 y).toInt32 = kSg (y.toBitVec.toNat % 256) := by
  have h1 : Int32.toInt8 y = Int32.toInt8 (nI (y.toBitVec.toNat % 256)) := by
    apply Int8.toBitVec_inj.mp
    show y.toBitVec.signExtend 8 = (BitVec.ofNat 32 (y.toBitVec.toNat % 256)).signExtend 8
    first
      | rw [BitVec.signExtend_eq_setWidth_of_le _ (by decide), BitVec.signExtend_eq_setWidth_of_le _ (by decide)]
      | rw [BitVec.signExtend_eq_setWidth_of_lt _ (by decide), BitVec.signExtend_eq_setWidth_of_lt _ (by decide)]
    apply BitVec.eq_of_toNat_eq
    rw [BitVec.toNat_setWidth, BitVec.toNat_setWidth, BitVec.toNat_ofNat]
    omega
  rw [h1]
  exact kBy8F ⟨_, Nat.mod_lt _ (by decide)⟩
theorem kByteF : ∀ v : Fin 256, vp_nar .byte (kSg v.val) = kSg v.val := by decide +kernel
theorem kUpM {g g1 : Nat → Int32} {t : Nat → Nat} {k : Nat} {x y p h : Int32} (hk : k < 2 ^ 31) (e : g1 = upd g (Int32.toNatClampNeg (nI k)) (vp_nar .byte x)) (ex : x = (Int32.toInt8 y).toInt32) (ey : y = p >>> (h &&& 31)) (H : ∀ j : Nat, g j = kSg (t j)) : ∀ j : Nat, g1 j = kSg (kUpN t k (kSn p h) j) := fun j => by
  rw [e, nI_clamp hk]
  unfold kUpN
  by_cases z : j = k
  · rw [if_pos z, z, pk_us, ex, ey, kToB]
    exact kByteF ⟨kSn p h, kSn_b p h⟩
  · rw [if_neg z, pk_un z]; exact H j
theorem kTxU {f f1 mf1 : Nat → Int32} {P i : Nat} {x : Int32} {bt : Nat → Nat} (hP : P < 14) (hi : i < 120) (e : f1 = upd f (Int32.toNatClampNeg (nI (120 * P + i))) (vp_nar .byte x)) (ex : x = mf1 (Int32.toNatClampNeg (nI i))) (hb : ∀ j : Nat, mf1 j = kSg (bt j)) (h8 : ∀ j : Nat, bt j < 256) (H : ∀ q : Nat, q < i → f (120 * P + q) = mf1 q) : ∀ q : Nat, q < i + 1 → f1 (120 * P + q) = mf1 q := fun q hq => by
  rw [e, nI_clamp (by omega)]
  by_cases z : q = i
  · rw [z, pk_us, ex, nI_clamp (by omega), hb i]
    exact kByteF ⟨bt i, h8 i⟩
  · rw [pk_un (by omega)]; exact H q (by omega)
theorem kTxO {f f1 mf2 : Nat → Int32} {P i : Nat} {x : Int32} (hP : P < 14) (hi : i < 120) (e : f1 = upd f (Int32.toNatClampNeg (nI (120 * P + i))) x) (H : ∀ q : Nat, q < 120 * P ∨ 120 * P + 120 ≤ q → f q = mf2 q) : ∀ q : Nat, q < 120 * P ∨ 120 * P + 120 ≤ q → f1 q = mf2 q := fun q hq => by
  rw [e, nI_clamp (by omega), pk_un (by omega)]
  exact H q hq

theorem dX10_bytesIn_0 : decode cX10_bytesIn 0 = .ok (.iconst 0, 1) := kDs0 kf_3 (by decide +kernel)
theorem dX10_bytesIn_1 : decode cX10_bytesIn 1 = .ok (.istore_n 1, 1) := kDs0 kf_60 (by decide +kernel)
theorem dX10_bytesIn_2 : decode cX10_bytesIn 2 = .ok (.bipush 24, 2) := kDs3 kf_16 (by decide +kernel)
theorem dX10_bytesIn_4 : decode cX10_bytesIn 4 = .ok (.istore_n 2, 1) := kDs0 kf_61 (by decide +kernel)
theorem dX10_bytesIn_5 : decode cX10_bytesIn 5 = .ok (.iload_n 2, 1) := kDs0 kf_28 (by decide +kernel)
theorem dX10_bytesIn_6 : decode cX10_bytesIn 6 = .ok (.ifCond .lt 27, 3) := kDs4 kf_155 (by decide +kernel)
theorem dX10_bytesIn_9 : decode cX10_bytesIn 9 = .ok (.iload_n 1, 1) := kDs0 kf_27 (by decide +kernel)
theorem dX10_bytesIn_10 : decode cX10_bytesIn 10 = .ok (.iload_n 0, 1) := kDs0 kf_26 (by decide +kernel)
theorem dX10_bytesIn_11 : decode cX10_bytesIn 11 = .ok (.iload_n 2, 1) := kDs0 kf_28 (by decide +kernel)
theorem dX10_bytesIn_12 : decode cX10_bytesIn 12 = .ok (.ishr, 1) := kDs0 kf_122 (by decide +kernel)
theorem dX10_bytesIn_13 : decode cX10_bytesIn 13 = .ok (.sipush 255, 3) := kDs4 kf_17 (by decide +kernel)
theorem dX10_bytesIn_16 : decode cX10_bytesIn 16 = .ok (.iand, 1) := kDs0 kf_126 (by decide +kernel)
theorem dX10_bytesIn_17 : decode cX10_bytesIn 17 = .ok (.ifCond .eq 7, 3) := kDs4 kf_153 (by decide +kernel)
theorem dX10_bytesIn_24 : decode cX10_bytesIn 24 = .ok (.iconst 0, 1) := kDs0 kf_3 (by decide +kernel)
theorem dX10_bytesIn_25 : decode cX10_bytesIn 25 = .ok (.iadd, 1) := kDs0 kf_96 (by decide +kernel)
theorem dX10_bytesIn_26 : decode cX10_bytesIn 26 = .ok (.istore_n 1, 1) := kDs0 kf_60 (by decide +kernel)
theorem dX10_bytesIn_27 : decode cX10_bytesIn 27 = .ok (.iinc 2 (-8), 3) := kDs5 kf_132 (by decide +kernel)
theorem dX10_bytesIn_30 : decode cX10_bytesIn 30 = .ok (.goto (-25), 3) := kDs4 kf_167 (by decide +kernel)
theorem dX10_bytesIn_33 : decode cX10_bytesIn 33 = .ok (.iload_n 1, 1) := kDs0 kf_27 (by decide +kernel)
theorem dX10_bytesIn_34 : decode cX10_bytesIn 34 = .ok (.ireturn, 1) := kDs0 kf_172 (by decide +kernel)
theorem dX10_bytesIn_20 : decode cX10_bytesIn 20 = .ok (.iconst 1, 1) := kDs0 kf_4 (by decide +kernel)
theorem dX10_bytesIn_21 : decode cX10_bytesIn 21 = .ok (.goto 4, 3) := kDs4 kf_167 (by decide +kernel)
def w_s_bytes10 : List Cond := .code yX10_bytesIn cX10_bytesIn 3 (some .int) :: ([])
theorem gw_s_bytes10 : (w_s_bytes10).all goodWord = true := kGc rfl kGn
theorem hd_X10_bytesIn : yX10_bytesIn.cls ≠ "java/lang/invoke/MethodHandle" ∧ yX10_bytesIn.cls ≠ "java/lang/invoke/VarHandle" ∧ (parseMethodDescriptor yX10_bytesIn.desc).map (fun d => d.parameters.length) = some 1 := by decide +kernel
set_option maxHeartbeats 4000000 in
set_option maxRecDepth 100000 in
theorem s_bytes10 (l : Launch) (dC : Nat → ClassId) (dI : Nat → Nat → Nat) (p0 : Int32) : Met l yX10_bytesIn w_s_bytes10 ({ frames := 1, cells := 0, slots := 0, locals := 60 }) (kR dC dI [.int p0] [] [] kT) (vp_Si (fun r : Int32 => r = nI (kCnt p0))) 0 0 (fun _ => False) := by
  refine Met.ofW (cc := cX10_bytesIn) (maxL := 3) (ret := (some .int)) (by decide) rfl ?_
  intro p e s m args below meth c s₁ B hml hv
  obtain ⟨rfl, hP, hK, hX⟩ := hv
  have hx := B.exec
  have hb := B.bytes
  have hr := B.returns
  have hts := atoms_spec (ws := w_s_bytes10) B.pre
  have hown : s.vm.findClass RX10 = some m.cls := findClass_of_methodNamed B.named
  have hlocks := B.notSynchronized
  have hP : va_P (dC, dI) vwCl [] s.heap := hP
  have hl := lv_entry ([.int p0]) (n := 3) (Nat.le_of_ble_eq_true rfl)
  rw [lg_entry_eq]
  generalize (lg_sl ([.int p0]) ++ List.replicate (3 - (lg_sl ([.int p0])).length) Slot.unset).toArray = ls at hl ⊢
  have hl : lv_has ls 3 [(0, .int p0)] := hl
  refine kQ (fun Q hQ => ?_)
  refine lv_iconst (v := 0) hx hb dX10_bytesIn_0 kc_i_0 ?_
  refine lv_istore_n hx hb dX10_bytesIn_1 rfl hl kc_l_1_3 (kTo [(1, .int 0), (0, .int p0)]) (fun ls hl => ?_)
  refine lv_bipush (v := 24) hx hb dX10_bytesIn_2 kc_b_24 ?_
  refine lv_istore_n hx hb dX10_bytesIn_4 rfl hl kc_l_2_3 (kTo [(2, .int 24), (1, .int 0), (0, .int p0)]) (fun ls hl => ?_)
  refine lv_iload_n hx hb dX10_bytesIn_5 rfl (lv_at hl 0 rfl) ?_
  refine lv_if_lt (tgt := 33) hx hb dX10_bytesIn_6 kc_t_6_27 (fun c_1 => absurd c_1 (by decide)) (fun c_1 => ?_)
  refine lv_iload_n hx hb dX10_bytesIn_9 rfl (lv_at hl 1 rfl) ?_
  refine lv_iload_n hx hb dX10_bytesIn_10 rfl (lv_at hl 2 rfl) ?_
  refine lv_iload_n hx hb dX10_bytesIn_11 rfl (lv_at hl 0 rfl) ?_
  refine lv_ishr hx hb dX10_bytesIn_12 ?_
  refine lv_topi (fun x_2 ex_2 => ?_)
  refine lv_sipush (v := 255) hx hb dX10_bytesIn_13 kc_s_255 ?_
  refine lv_iand hx hb dX10_bytesIn_16 ?_
  refine lv_topi (fun x_3 ex_3 => ?_)
  have hy_4 : kS p0 24 = x_3 := by rw [ex_3, ex_2]; rfl
  refine lv_if_eq (tgt := 24) hx hb dX10_bytesIn_17 kc_t_17_7 (fun c_5 => ?_) (fun c_5 => ?_)
  · refine lv_iconst (v := 0) hx hb dX10_bytesIn_24 kc_i_0 ?_
    refine lv_iadd hx hb dX10_bytesIn_25 ?_
    refine lv_topi (fun y_6 ey_6 => ?_)
    obtain rfl : y_6 = 0 := ey_6.trans (by decide)
    refine lv_istore_n hx hb dX10_bytesIn_26 rfl hl kc_l_1_3 (kTo [(1, .int 0), (2, .int 24), (0, .int p0)]) (fun ls hl => ?_)
    refine lv_iinc (v := 16) hx hb dX10_bytesIn_27 hl (k := 1) rfl (by decide) kc_l_2_3 (kTo [(2, .int 16), (1, .int 0), (0, .int p0)]) (fun ls hl => ?_)
    refine lv_goto (tgt := 5) hx hb dX10_bytesIn_30 kc_t_30_m25 ?_
    refine lv_iload_n hx hb dX10_bytesIn_5 rfl (lv_at hl 0 rfl) ?_
    refine lv_if_lt (tgt := 33) hx hb dX10_bytesIn_6 kc_t_6_27 (fun c_7 => absurd c_7 (by decide)) (fun c_7 => ?_)
    refine lv_iload_n hx hb dX10_bytesIn_9 rfl (lv_at hl 1 rfl) ?_
    refine lv_iload_n hx hb dX10_bytesIn_10 rfl (lv_at hl 2 rfl) ?_
    refine lv_iload_n hx hb dX10_bytesIn_11 rfl (lv_at hl 0 rfl) ?_
    refine lv_ishr hx hb dX10_bytesIn_12 ?_
    refine lv_topi (fun x_8 ex_8 => ?_)
    refine lv_sipush (v := 255) hx hb dX10_bytesIn_13 kc_s_255 ?_
    refine lv_iand hx hb dX10_bytesIn_16 ?_
    refine lv_topi (fun x_9 ex_9 => ?_)
    have hy_10 : kS p0 16 = x_9 := by rw [ex_9, ex_8]; rfl
    refine lv_if_eq (tgt := 24) hx hb dX10_bytesIn_17 kc_t_17_7 (fun c_11 => ?_) (fun c_11 => ?_)
    · refine lv_iconst (v := 0) hx hb dX10_bytesIn_24 kc_i_0 ?_
      refine lv_iadd hx hb dX10_bytesIn_25 ?_
      refine lv_topi (fun y_12 ey_12 => ?_)
      obtain rfl : y_12 = 0 := ey_12.trans (by decide)
      refine lv_istore_n hx hb dX10_bytesIn_26 rfl hl kc_l_1_3 (kTo [(1, .int 0), (2, .int 16), (0, .int p0)]) (fun ls hl => ?_)
      refine lv_iinc (v := 8) hx hb dX10_bytesIn_27 hl (k := 1) rfl (by decide) kc_l_2_3 (kTo [(2, .int 8), (1, .int 0), (0, .int p0)]) (fun ls hl => ?_)
      refine lv_goto (tgt := 5) hx hb dX10_bytesIn_30 kc_t_30_m25 ?_
      refine lv_iload_n hx hb dX10_bytesIn_5 rfl (lv_at hl 0 rfl) ?_
      refine lv_if_lt (tgt := 33) hx hb dX10_bytesIn_6 kc_t_6_27 (fun c_13 => absurd c_13 (by decide)) (fun c_13 => ?_)
      refine lv_iload_n hx hb dX10_bytesIn_9 rfl (lv_at hl 1 rfl) ?_
      refine lv_iload_n hx hb dX10_bytesIn_10 rfl (lv_at hl 2 rfl) ?_
      refine lv_iload_n hx hb dX10_bytesIn_11 rfl (lv_at hl 0 rfl) ?_
      refine lv_ishr hx hb dX10_bytesIn_12 ?_
      refine lv_topi (fun x_14 ex_14 => ?_)
      refine lv_sipush (v := 255) hx hb dX10_bytesIn_13 kc_s_255 ?_
      refine lv_iand hx hb dX10_bytesIn_16 ?_
      refine lv_topi (fun x_15 ex_15 => ?_)
      have hy_16 : kS p0 8 = x_15 := by rw [ex_15, ex_14]; rfl
      refine lv_if_eq (tgt := 24) hx hb dX10_bytesIn_17 kc_t_17_7 (fun c_17 => ?_) (fun c_17 => ?_)
      · refine lv_iconst (v := 0) hx hb dX10_bytesIn_24 kc_i_0 ?_
        refine lv_iadd hx hb dX10_bytesIn_25 ?_
        refine lv_topi (fun y_18 ey_18 => ?_)
        obtain rfl : y_18 = 0 := ey_18.trans (by decide)
        refine lv_istore_n hx hb dX10_bytesIn_26 rfl hl kc_l_1_3 (kTo [(1, .int 0), (2, .int 8), (0, .int p0)]) (fun ls hl => ?_)
        refine lv_iinc (v := 0) hx hb dX10_bytesIn_27 hl (k := 1) rfl (by decide) kc_l_2_3 (kTo [(2, .int 0), (1, .int 0), (0, .int p0)]) (fun ls hl => ?_)
        refine lv_goto (tgt := 5) hx hb dX10_bytesIn_30 kc_t_30_m25 ?_
        refine lv_iload_n hx hb dX10_bytesIn_5 rfl (lv_at hl 0 rfl) ?_
        refine lv_if_lt (tgt := 33) hx hb dX10_bytesIn_6 kc_t_6_27 (fun c_19 => absurd c_19 (by decide)) (fun c_19 => ?_)
        refine lv_iload_n hx hb dX10_bytesIn_9 rfl (lv_at hl 1 rfl) ?_
        refine lv_iload_n hx hb dX10_bytesIn_10 rfl (lv_at hl 2 rfl) ?_
        refine lv_iload_n hx hb dX10_bytesIn_11 rfl (lv_at hl 0 rfl) ?_
        refine lv_ishr hx hb dX10_bytesIn_12 ?_
        refine lv_topi (fun x_20 ex_20 => ?_)
        refine lv_sipush (v := 255) hx hb dX10_bytesIn_13 kc_s_255 ?_
        refine lv_iand hx hb dX10_bytesIn_16 ?_
        refine lv_topi (fun x_21 ex_21 => ?_)
        have hy_22 : kS p0 0 = x_21 := by rw [ex_21, ex_20]; rfl
        refine lv_if_eq (tgt := 24) hx hb dX10_bytesIn_17 kc_t_17_7 (fun c_23 => ?_) (fun c_23 => ?_)
        · refine lv_iconst (v := 0) hx hb dX10_bytesIn_24 kc_i_0 ?_
          refine lv_iadd hx hb dX10_bytesIn_25 ?_
          refine lv_topi (fun y_24 ey_24 => ?_)
          obtain rfl : y_24 = 0 := ey_24.trans (by decide)
          refine lv_istore_n hx hb dX10_bytesIn_26 rfl hl kc_l_1_3 (kTo [(1, .int 0), (2, .int 0), (0, .int p0)]) (fun ls hl => ?_)
          refine lv_iinc (v := (-8)) hx hb dX10_bytesIn_27 hl (k := 1) rfl (by decide) kc_l_2_3 (kTo [(2, .int (-8)), (1, .int 0), (0, .int p0)]) (fun ls hl => ?_)
          refine lv_goto (tgt := 5) hx hb dX10_bytesIn_30 kc_t_30_m25 ?_
          refine lv_iload_n hx hb dX10_bytesIn_5 rfl (lv_at hl 0 rfl) ?_
          refine lv_if_lt (tgt := 33) hx hb dX10_bytesIn_6 kc_t_6_27 (fun c_25 => ?_) (fun c_25 => absurd (by decide) c_25)
          refine lv_iload_n hx hb dX10_bytesIn_33 rfl (lv_at hl 1 rfl) ?_
          have hk : kCnt p0 = 0 := by simp [kCnt, kC1, hy_4, hy_10, hy_16, hy_22, c_5, c_11, c_17, c_23]
          rw [hQ]
          exact W.iret (v := 0) hx hb hr (fun t ht hW => ⟨0, rfl, (by rw [hk]; rfl), ht⟩) (fun _ h => nomatch h) dX10_bytesIn_34
        · refine lv_iconst (v := 1) hx hb dX10_bytesIn_20 kc_i_1 ?_
          refine lv_goto (tgt := 25) hx hb dX10_bytesIn_21 kc_t_21_4 ?_
          refine lv_iadd hx hb dX10_bytesIn_25 ?_
          refine lv_topi (fun y_26 ey_26 => ?_)
          obtain rfl : y_26 = 1 := ey_26.trans (by decide)
          refine lv_istore_n hx hb dX10_bytesIn_26 rfl hl kc_l_1_3 (kTo [(1, .int 1), (2, .int 0), (0, .int p0)]) (fun ls hl => ?_)
          refine lv_iinc (v := (-8)) hx hb dX10_bytesIn_27 hl (k := 1) rfl (by decide) kc_l_2_3 (kTo [(2, .int (-8)), (1, .int 1), (0, .int p0)]) (fun ls hl => ?_)
          refine lv_goto (tgt := 5) hx hb dX10_bytesIn_30 kc_t_30_m25 ?_
          refine lv_iload_n hx hb dX10_bytesIn_5 rfl (lv_at hl 0 rfl) ?_
          refine lv_if_lt (tgt := 33) hx hb dX10_bytesIn_6 kc_t_6_27 (fun c_27 => ?_) (fun c_27 => absurd (by decide) c_27)
          refine lv_iload_n hx hb dX10_bytesIn_33 rfl (lv_at hl 1 rfl) ?_
          have hk : kCnt p0 = 1 := by simp [kCnt, kC1, hy_4, hy_10, hy_16, hy_22, c_5, c_11, c_17, c_23]
          rw [hQ]
          exact W.iret (v := 1) hx hb hr (fun t ht hW => ⟨1, rfl, (by rw [hk]; rfl), ht⟩) (fun _ h => nomatch h) dX10_bytesIn_34
      · refine lv_iconst (v := 1) hx hb dX10_bytesIn_20 kc_i_1 ?_
        refine lv_goto (tgt := 25) hx hb dX10_bytesIn_21 kc_t_21_4 ?_
        refine lv_iadd hx hb dX10_bytesIn_25 ?_
        refine lv_topi (fun y_28 ey_28 => ?_)
        obtain rfl : y_28 = 1 := ey_28.trans (by decide)
        refine lv_istore_n hx hb dX10_bytesIn_26 rfl hl kc_l_1_3 (kTo [(1, .int 1), (2, .int 8), (0, .int p0)]) (fun ls hl => ?_)
        refine lv_iinc (v := 0) hx hb dX10_bytesIn_27 hl (k := 1) rfl (by decide) kc_l_2_3 (kTo [(2, .int 0), (1, .int 1), (0, .int p0)]) (fun ls hl => ?_)
        refine lv_goto (tgt := 5) hx hb dX10_bytesIn_30 kc_t_30_m25 ?_
        refine lv_iload_n hx hb dX10_bytesIn_5 rfl (lv_at hl 0 rfl) ?_
        refine lv_if_lt (tgt := 33) hx hb dX10_bytesIn_6 kc_t_6_27 (fun c_29 => absurd c_29 (by decide)) (fun c_29 => ?_)
        refine lv_iload_n hx hb dX10_bytesIn_9 rfl (lv_at hl 1 rfl) ?_
        refine lv_iload_n hx hb dX10_bytesIn_10 rfl (lv_at hl 2 rfl) ?_
        refine lv_iload_n hx hb dX10_bytesIn_11 rfl (lv_at hl 0 rfl) ?_
        refine lv_ishr hx hb dX10_bytesIn_12 ?_
        refine lv_topi (fun x_30 ex_30 => ?_)
        refine lv_sipush (v := 255) hx hb dX10_bytesIn_13 kc_s_255 ?_
        refine lv_iand hx hb dX10_bytesIn_16 ?_
        refine lv_topi (fun x_31 ex_31 => ?_)
        have hy_32 : kS p0 0 = x_31 := by rw [ex_31, ex_30]; rfl
        refine lv_if_eq (tgt := 24) hx hb dX10_bytesIn_17 kc_t_17_7 (fun c_33 => ?_) (fun c_33 => ?_)
        · refine lv_iconst (v := 0) hx hb dX10_bytesIn_24 kc_i_0 ?_
          refine lv_iadd hx hb dX10_bytesIn_25 ?_
          refine lv_topi (fun y_34 ey_34 => ?_)
          obtain rfl : y_34 = 1 := ey_34.trans (by decide)
          refine lv_istore_n hx hb dX10_bytesIn_26 rfl hl kc_l_1_3 (kTo [(1, .int 1), (2, .int 0), (0, .int p0)]) (fun ls hl => ?_)
          refine lv_iinc (v := (-8)) hx hb dX10_bytesIn_27 hl (k := 1) rfl (by decide) kc_l_2_3 (kTo [(2, .int (-8)), (1, .int 1), (0, .int p0)]) (fun ls hl => ?_)
          refine lv_goto (tgt := 5) hx hb dX10_bytesIn_30 kc_t_30_m25 ?_
          refine lv_iload_n hx hb dX10_bytesIn_5 rfl (lv_at hl 0 rfl) ?_
          refine lv_if_lt (tgt := 33) hx hb dX10_bytesIn_6 kc_t_6_27 (fun c_35 => ?_) (fun c_35 => absurd (by decide) c_35)
          refine lv_iload_n hx hb dX10_bytesIn_33 rfl (lv_at hl 1 rfl) ?_
          have hk : kCnt p0 = 1 := by simp [kCnt, kC1, hy_4, hy_10, hy_16, hy_32, c_5, c_11, c_17, c_33]
          rw [hQ]
          exact W.iret (v := 1) hx hb hr (fun t ht hW => ⟨1, rfl, (by rw [hk]; rfl), ht⟩) (fun _ h => nomatch h) dX10_bytesIn_34
        · refine lv_iconst (v := 1) hx hb dX10_bytesIn_20 kc_i_1 ?_
          refine lv_goto (tgt := 25) hx hb dX10_bytesIn_21 kc_t_21_4 ?_
          refine lv_iadd hx hb dX10_bytesIn_25 ?_
          refine lv_topi (fun y_36 ey_36 => ?_)
          obtain rfl : y_36 = 2 := ey_36.trans (by decide)
          refine lv_istore_n hx hb dX10_bytesIn_26 rfl hl kc_l_1_3 (kTo [(1, .int 2), (2, .int 0), (0, .int p0)]) (fun ls hl => ?_)
          refine lv_iinc (v := (-8)) hx hb dX10_bytesIn_27 hl (k := 1) rfl (by decide) kc_l_2_3 (kTo [(2, .int (-8)), (1, .int 2), (0, .int p0)]) (fun ls hl => ?_)
          refine lv_goto (tgt := 5) hx hb dX10_bytesIn_30 kc_t_30_m25 ?_
          refine lv_iload_n hx hb dX10_bytesIn_5 rfl (lv_at hl 0 rfl) ?_
          refine lv_if_lt (tgt := 33) hx hb dX10_bytesIn_6 kc_t_6_27 (fun c_37 => ?_) (fun c_37 => absurd (by decide) c_37)
          refine lv_iload_n hx hb dX10_bytesIn_33 rfl (lv_at hl 1 rfl) ?_
          have hk : kCnt p0 = 2 := by simp [kCnt, kC1, hy_4, hy_10, hy_16, hy_32, c_5, c_11, c_17, c_33]
          rw [hQ]
          exact W.iret (v := 2) hx hb hr (fun t ht hW => ⟨2, rfl, (by rw [hk]; rfl), ht⟩) (fun _ h => nomatch h) dX10_bytesIn_34
    · refine lv_iconst (v := 1) hx hb dX10_bytesIn_20 kc_i_1 ?_
      refine lv_goto (tgt := 25) hx hb dX10_bytesIn_21 kc_t_21_4 ?_
      refine lv_iadd hx hb dX10_bytesIn_25 ?_
      refine lv_topi (fun y_38 ey_38 => ?_)
      obtain rfl : y_38 = 1 := ey_38.trans (by decide)
      refine lv_istore_n hx hb dX10_bytesIn_26 rfl hl kc_l_1_3 (kTo [(1, .int 1), (2, .int 16), (0, .int p0)]) (fun ls hl => ?_)
      refine lv_iinc (v := 8) hx hb dX10_bytesIn_27 hl (k := 1) rfl (by decide) kc_l_2_3 (kTo [(2, .int 8), (1, .int 1), (0, .int p0)]) (fun ls hl => ?_)
      refine lv_goto (tgt := 5) hx hb dX10_bytesIn_30 kc_t_30_m25 ?_
      refine lv_iload_n hx hb dX10_bytesIn_5 rfl (lv_at hl 0 rfl) ?_
      refine lv_if_lt (tgt := 33) hx hb dX10_bytesIn_6 kc_t_6_27 (fun c_39 => absurd c_39 (by decide)) (fun c_39 => ?_)
      refine lv_iload_n hx hb dX10_bytesIn_9 rfl (lv_at hl 1 rfl) ?_
      refine lv_iload_n hx hb dX10_bytesIn_10 rfl (lv_at hl 2 rfl) ?_
      refine lv_iload_n hx hb dX10_bytesIn_11 rfl (lv_at hl 0 rfl) ?_
      refine lv_ishr hx hb dX10_bytesIn_12 ?_
      refine lv_topi (fun x_40 ex_40 => ?_)
      refine lv_sipush (v := 255) hx hb dX10_bytesIn_13 kc_s_255 ?_
      refine lv_iand hx hb dX10_bytesIn_16 ?_
      refine lv_topi (fun x_41 ex_41 => ?_)
      have hy_42 : kS p0 8 = x_41 := by rw [ex_41, ex_40]; rfl
      refine lv_if_eq (tgt := 24) hx hb dX10_bytesIn_17 kc_t_17_7 (fun c_43 => ?_) (fun c_43 => ?_)
      · refine lv_iconst (v := 0) hx hb dX10_bytesIn_24 kc_i_0 ?_
        refine lv_iadd hx hb dX10_bytesIn_25 ?_
        refine lv_topi (fun y_44 ey_44 => ?_)
        obtain rfl : y_44 = 1 := ey_44.trans (by decide)
        refine lv_istore_n hx hb dX10_bytesIn_26 rfl hl kc_l_1_3 (kTo [(1, .int 1), (2, .int 8), (0, .int p0)]) (fun ls hl => ?_)
        refine lv_iinc (v := 0) hx hb dX10_bytesIn_27 hl (k := 1) rfl (by decide) kc_l_2_3 (kTo [(2, .int 0), (1, .int 1), (0, .int p0)]) (fun ls hl => ?_)
        refine lv_goto (tgt := 5) hx hb dX10_bytesIn_30 kc_t_30_m25 ?_
        refine lv_iload_n hx hb dX10_bytesIn_5 rfl (lv_at hl 0 rfl) ?_
        refine lv_if_lt (tgt := 33) hx hb dX10_bytesIn_6 kc_t_6_27 (fun c_45 => absurd c_45 (by decide)) (fun c_45 => ?_)
        refine lv_iload_n hx hb dX10_bytesIn_9 rfl (lv_at hl 1 rfl) ?_
        refine lv_iload_n hx hb dX10_bytesIn_10 rfl (lv_at hl 2 rfl) ?_
        refine lv_iload_n hx hb dX10_bytesIn_11 rfl (lv_at hl 0 rfl) ?_
        refine lv_ishr hx hb dX10_bytesIn_12 ?_
        refine lv_topi (fun x_46 ex_46 => ?_)
        refine lv_sipush (v := 255) hx hb dX10_bytesIn_13 kc_s_255 ?_
        refine lv_iand hx hb dX10_bytesIn_16 ?_
        refine lv_topi (fun x_47 ex_47 => ?_)
        have hy_48 : kS p0 0 = x_47 := by rw [ex_47, ex_46]; rfl
        refine lv_if_eq (tgt := 24) hx hb dX10_bytesIn_17 kc_t_17_7 (fun c_49 => ?_) (fun c_49 => ?_)
        · refine lv_iconst (v := 0) hx hb dX10_bytesIn_24 kc_i_0 ?_
          refine lv_iadd hx hb dX10_bytesIn_25 ?_
          refine lv_topi (fun y_50 ey_50 => ?_)
          obtain rfl : y_50 = 1 := ey_50.trans (by decide)
          refine lv_istore_n hx hb dX10_bytesIn_26 rfl hl kc_l_1_3 (kTo [(1, .int 1), (2, .int 0), (0, .int p0)]) (fun ls hl => ?_)
          refine lv_iinc (v := (-8)) hx hb dX10_bytesIn_27 hl (k := 1) rfl (by decide) kc_l_2_3 (kTo [(2, .int (-8)), (1, .int 1), (0, .int p0)]) (fun ls hl => ?_)
          refine lv_goto (tgt := 5) hx hb dX10_bytesIn_30 kc_t_30_m25 ?_
          refine lv_iload_n hx hb dX10_bytesIn_5 rfl (lv_at hl 0 rfl) ?_
          refine lv_if_lt (tgt := 33) hx hb dX10_bytesIn_6 kc_t_6_27 (fun c_51 => ?_) (fun c_51 => absurd (by decide) c_51)
          refine lv_iload_n hx hb dX10_bytesIn_33 rfl (lv_at hl 1 rfl) ?_
          have hk : kCnt p0 = 1 := by simp [kCnt, kC1, hy_4, hy_10, hy_42, hy_48, c_5, c_11, c_43, c_49]
          rw [hQ]
          exact W.iret (v := 1) hx hb hr (fun t ht hW => ⟨1, rfl, (by rw [hk]; rfl), ht⟩) (fun _ h => nomatch h) dX10_bytesIn_34
        · refine lv_iconst (v := 1) hx hb dX10_bytesIn_20 kc_i_1 ?_
          refine lv_goto (tgt := 25) hx hb dX10_bytesIn_21 kc_t_21_4 ?_
          refine lv_iadd hx hb dX10_bytesIn_25 ?_
          refine lv_topi (fun y_52 ey_52 => ?_)
          obtain rfl : y_52 = 2 := ey_52.trans (by decide)
          refine lv_istore_n hx hb dX10_bytesIn_26 rfl hl kc_l_1_3 (kTo [(1, .int 2), (2, .int 0), (0, .int p0)]) (fun ls hl => ?_)
          refine lv_iinc (v := (-8)) hx hb dX10_bytesIn_27 hl (k := 1) rfl (by decide) kc_l_2_3 (kTo [(2, .int (-8)), (1, .int 2), (0, .int p0)]) (fun ls hl => ?_)
          refine lv_goto (tgt := 5) hx hb dX10_bytesIn_30 kc_t_30_m25 ?_
          refine lv_iload_n hx hb dX10_bytesIn_5 rfl (lv_at hl 0 rfl) ?_
          refine lv_if_lt (tgt := 33) hx hb dX10_bytesIn_6 kc_t_6_27 (fun c_53 => ?_) (fun c_53 => absurd (by decide) c_53)
          refine lv_iload_n hx hb dX10_bytesIn_33 rfl (lv_at hl 1 rfl) ?_
          have hk : kCnt p0 = 2 := by simp [kCnt, kC1, hy_4, hy_10, hy_42, hy_48, c_5, c_11, c_43, c_49]
          rw [hQ]
          exact W.iret (v := 2) hx hb hr (fun t ht hW => ⟨2, rfl, (by rw [hk]; rfl), ht⟩) (fun _ h => nomatch h) dX10_bytesIn_34
      · refine lv_iconst (v := 1) hx hb dX10_bytesIn_20 kc_i_1 ?_
        refine lv_goto (tgt := 25) hx hb dX10_bytesIn_21 kc_t_21_4 ?_
        refine lv_iadd hx hb dX10_bytesIn_25 ?_
        refine lv_topi (fun y_54 ey_54 => ?_)
        obtain rfl : y_54 = 2 := ey_54.trans (by decide)
        refine lv_istore_n hx hb dX10_bytesIn_26 rfl hl kc_l_1_3 (kTo [(1, .int 2), (2, .int 8), (0, .int p0)]) (fun ls hl => ?_)
        refine lv_iinc (v := 0) hx hb dX10_bytesIn_27 hl (k := 1) rfl (by decide) kc_l_2_3 (kTo [(2, .int 0), (1, .int 2), (0, .int p0)]) (fun ls hl => ?_)
        refine lv_goto (tgt := 5) hx hb dX10_bytesIn_30 kc_t_30_m25 ?_
        refine lv_iload_n hx hb dX10_bytesIn_5 rfl (lv_at hl 0 rfl) ?_
        refine lv_if_lt (tgt := 33) hx hb dX10_bytesIn_6 kc_t_6_27 (fun c_55 => absurd c_55 (by decide)) (fun c_55 => ?_)
        refine lv_iload_n hx hb dX10_bytesIn_9 rfl (lv_at hl 1 rfl) ?_
        refine lv_iload_n hx hb dX10_bytesIn_10 rfl (lv_at hl 2 rfl) ?_
        refine lv_iload_n hx hb dX10_bytesIn_11 rfl (lv_at hl 0 rfl) ?_
        refine lv_ishr hx hb dX10_bytesIn_12 ?_
        refine lv_topi (fun x_56 ex_56 => ?_)
        refine lv_sipush (v := 255) hx hb dX10_bytesIn_13 kc_s_255 ?_
        refine lv_iand hx hb dX10_bytesIn_16 ?_
        refine lv_topi (fun x_57 ex_57 => ?_)
        have hy_58 : kS p0 0 = x_57 := by rw [ex_57, ex_56]; rfl
        refine lv_if_eq (tgt := 24) hx hb dX10_bytesIn_17 kc_t_17_7 (fun c_59 => ?_) (fun c_59 => ?_)
        · refine lv_iconst (v := 0) hx hb dX10_bytesIn_24 kc_i_0 ?_
          refine lv_iadd hx hb dX10_bytesIn_25 ?_
          refine lv_topi (fun y_60 ey_60 => ?_)
          obtain rfl : y_60 = 2 := ey_60.trans (by decide)
          refine lv_istore_n hx hb dX10_bytesIn_26 rfl hl kc_l_1_3 (kTo [(1, .int 2), (2, .int 0), (0, .int p0)]) (fun ls hl => ?_)
          refine lv_iinc (v := (-8)) hx hb dX10_bytesIn_27 hl (k := 1) rfl (by decide) kc_l_2_3 (kTo [(2, .int (-8)), (1, .int 2), (0, .int p0)]) (fun ls hl => ?_)
          refine lv_goto (tgt := 5) hx hb dX10_bytesIn_30 kc_t_30_m25 ?_
          refine lv_iload_n hx hb dX10_bytesIn_5 rfl (lv_at hl 0 rfl) ?_
          refine lv_if_lt (tgt := 33) hx hb dX10_bytesIn_6 kc_t_6_27 (fun c_61 => ?_) (fun c_61 => absurd (by decide) c_61)
          refine lv_iload_n hx hb dX10_bytesIn_33 rfl (lv_at hl 1 rfl) ?_
          have hk : kCnt p0 = 2 := by simp [kCnt, kC1, hy_4, hy_10, hy_42, hy_58, c_5, c_11, c_43, c_59]
          rw [hQ]
          exact W.iret (v := 2) hx hb hr (fun t ht hW => ⟨2, rfl, (by rw [hk]; rfl), ht⟩) (fun _ h => nomatch h) dX10_bytesIn_34
        · refine lv_iconst (v := 1) hx hb dX10_bytesIn_20 kc_i_1 ?_
          refine lv_goto (tgt := 25) hx hb dX10_bytesIn_21 kc_t_21_4 ?_
          refine lv_iadd hx hb dX10_bytesIn_25 ?_
          refine lv_topi (fun y_62 ey_62 => ?_)
          obtain rfl : y_62 = 3 := ey_62.trans (by decide)
          refine lv_istore_n hx hb dX10_bytesIn_26 rfl hl kc_l_1_3 (kTo [(1, .int 3), (2, .int 0), (0, .int p0)]) (fun ls hl => ?_)
          refine lv_iinc (v := (-8)) hx hb dX10_bytesIn_27 hl (k := 1) rfl (by decide) kc_l_2_3 (kTo [(2, .int (-8)), (1, .int 3), (0, .int p0)]) (fun ls hl => ?_)
          refine lv_goto (tgt := 5) hx hb dX10_bytesIn_30 kc_t_30_m25 ?_
          refine lv_iload_n hx hb dX10_bytesIn_5 rfl (lv_at hl 0 rfl) ?_
          refine lv_if_lt (tgt := 33) hx hb dX10_bytesIn_6 kc_t_6_27 (fun c_63 => ?_) (fun c_63 => absurd (by decide) c_63)
          refine lv_iload_n hx hb dX10_bytesIn_33 rfl (lv_at hl 1 rfl) ?_
          have hk : kCnt p0 = 3 := by simp [kCnt, kC1, hy_4, hy_10, hy_42, hy_58, c_5, c_11, c_43, c_59]
          rw [hQ]
          exact W.iret (v := 3) hx hb hr (fun t ht hW => ⟨3, rfl, (by rw [hk]; rfl), ht⟩) (fun _ h => nomatch h) dX10_bytesIn_34
  · refine lv_iconst (v := 1) hx hb dX10_bytesIn_20 kc_i_1 ?_
    refine lv_goto (tgt := 25) hx hb dX10_bytesIn_21 kc_t_21_4 ?_
    refine lv_iadd hx hb dX10_bytesIn_25 ?_
    refine lv_topi (fun y_64 ey_64 => ?_)
    obtain rfl : y_64 = 1 := ey_64.trans (by decide)
    refine lv_istore_n hx hb dX10_bytesIn_26 rfl hl kc_l_1_3 (kTo [(1, .int 1), (2, .int 24), (0, .int p0)]) (fun ls hl => ?_)
    refine lv_iinc (v := 16) hx hb dX10_bytesIn_27 hl (k := 1) rfl (by decide) kc_l_2_3 (kTo [(2, .int 16), (1, .int 1), (0, .int p0)]) (fun ls hl => ?_)
    refine lv_goto (tgt := 5) hx hb dX10_bytesIn_30 kc_t_30_m25 ?_
    refine lv_iload_n hx hb dX10_bytesIn_5 rfl (lv_at hl 0 rfl) ?_
    refine lv_if_lt (tgt := 33) hx hb dX10_bytesIn_6 kc_t_6_27 (fun c_65 => absurd c_65 (by decide)) (fun c_65 => ?_)
    refine lv_iload_n hx hb dX10_bytesIn_9 rfl (lv_at hl 1 rfl) ?_
    refine lv_iload_n hx hb dX10_bytesIn_10 rfl (lv_at hl 2 rfl) ?_
    refine lv_iload_n hx hb dX10_bytesIn_11 rfl (lv_at hl 0 rfl) ?_
    refine lv_ishr hx hb dX10_bytesIn_12 ?_
    refine lv_topi (fun x_66 ex_66 => ?_)
    refine lv_sipush (v := 255) hx hb dX10_bytesIn_13 kc_s_255 ?_
    refine lv_iand hx hb dX10_bytesIn_16 ?_
    refine lv_topi (fun x_67 ex_67 => ?_)
    have hy_68 : kS p0 16 = x_67 := by rw [ex_67, ex_66]; rfl
    refine lv_if_eq (tgt := 24) hx hb dX10_bytesIn_17 kc_t_17_7 (fun c_69 => ?_) (fun c_69 => ?_)
    · refine lv_iconst (v := 0) hx hb dX10_bytesIn_24 kc_i_0 ?_
      refine lv_iadd hx hb dX10_bytesIn_25 ?_
      refine lv_topi (fun y_70 ey_70 => ?_)
      obtain rfl : y_70 = 1 := ey_70.trans (by decide)
      refine lv_istore_n hx hb dX10_bytesIn_26 rfl hl kc_l_1_3 (kTo [(1, .int 1), (2, .int 16), (0, .int p0)]) (fun ls hl => ?_)
      refine lv_iinc (v := 8) hx hb dX10_bytesIn_27 hl (k := 1) rfl (by decide) kc_l_2_3 (kTo [(2, .int 8), (1, .int 1), (0, .int p0)]) (fun ls hl => ?_)
      refine lv_goto (tgt := 5) hx hb dX10_bytesIn_30 kc_t_30_m25 ?_
      refine lv_iload_n hx hb dX10_bytesIn_5 rfl (lv_at hl 0 rfl) ?_
      refine lv_if_lt (tgt := 33) hx hb dX10_bytesIn_6 kc_t_6_27 (fun c_71 => absurd c_71 (by decide)) (fun c_71 => ?_)
      refine lv_iload_n hx hb dX10_bytesIn_9 rfl (lv_at hl 1 rfl) ?_
      refine lv_iload_n hx hb dX10_bytesIn_10 rfl (lv_at hl 2 rfl) ?_
      refine lv_iload_n hx hb dX10_bytesIn_11 rfl (lv_at hl 0 rfl) ?_
      refine lv_ishr hx hb dX10_bytesIn_12 ?_
      refine lv_topi (fun x_72 ex_72 => ?_)
      refine lv_sipush (v := 255) hx hb dX10_bytesIn_13 kc_s_255 ?_
      refine lv_iand hx hb dX10_bytesIn_16 ?_
      refine lv_topi (fun x_73 ex_73 => ?_)
      have hy_74 : kS p0 8 = x_73 := by rw [ex_73, ex_72]; rfl
      refine lv_if_eq (tgt := 24) hx hb dX10_bytesIn_17 kc_t_17_7 (fun c_75 => ?_) (fun c_75 => ?_)
      · refine lv_iconst (v := 0) hx hb dX10_bytesIn_24 kc_i_0 ?_
        refine lv_iadd hx hb dX10_bytesIn_25 ?_
        refine lv_topi (fun y_76 ey_76 => ?_)
        obtain rfl : y_76 = 1 := ey_76.trans (by decide)
        refine lv_istore_n hx hb dX10_bytesIn_26 rfl hl kc_l_1_3 (kTo [(1, .int 1), (2, .int 8), (0, .int p0)]) (fun ls hl => ?_)
        refine lv_iinc (v := 0) hx hb dX10_bytesIn_27 hl (k := 1) rfl (by decide) kc_l_2_3 (kTo [(2, .int 0), (1, .int 1), (0, .int p0)]) (fun ls hl => ?_)
        refine lv_goto (tgt := 5) hx hb dX10_bytesIn_30 kc_t_30_m25 ?_
        refine lv_iload_n hx hb dX10_bytesIn_5 rfl (lv_at hl 0 rfl) ?_
        refine lv_if_lt (tgt := 33) hx hb dX10_bytesIn_6 kc_t_6_27 (fun c_77 => absurd c_77 (by decide)) (fun c_77 => ?_)
        refine lv_iload_n hx hb dX10_bytesIn_9 rfl (lv_at hl 1 rfl) ?_
        refine lv_iload_n hx hb dX10_bytesIn_10 rfl (lv_at hl 2 rfl) ?_
        refine lv_iload_n hx hb dX10_bytesIn_11 rfl (lv_at hl 0 rfl) ?_
        refine lv_ishr hx hb dX10_bytesIn_12 ?_
        refine lv_topi (fun x_78 ex_78 => ?_)
        refine lv_sipush (v := 255) hx hb dX10_bytesIn_13 kc_s_255 ?_
        refine lv_iand hx hb dX10_bytesIn_16 ?_
        refine lv_topi (fun x_79 ex_79 => ?_)
        have hy_80 : kS p0 0 = x_79 := by rw [ex_79, ex_78]; rfl
        refine lv_if_eq (tgt := 24) hx hb dX10_bytesIn_17 kc_t_17_7 (fun c_81 => ?_) (fun c_81 => ?_)
        · refine lv_iconst (v := 0) hx hb dX10_bytesIn_24 kc_i_0 ?_
          refine lv_iadd hx hb dX10_bytesIn_25 ?_
          refine lv_topi (fun y_82 ey_82 => ?_)
          obtain rfl : y_82 = 1 := ey_82.trans (by decide)
          refine lv_istore_n hx hb dX10_bytesIn_26 rfl hl kc_l_1_3 (kTo [(1, .int 1), (2, .int 0), (0, .int p0)]) (fun ls hl => ?_)
          refine lv_iinc (v := (-8)) hx hb dX10_bytesIn_27 hl (k := 1) rfl (by decide) kc_l_2_3 (kTo [(2, .int (-8)), (1, .int 1), (0, .int p0)]) (fun ls hl => ?_)
          refine lv_goto (tgt := 5) hx hb dX10_bytesIn_30 kc_t_30_m25 ?_
          refine lv_iload_n hx hb dX10_bytesIn_5 rfl (lv_at hl 0 rfl) ?_
          refine lv_if_lt (tgt := 33) hx hb dX10_bytesIn_6 kc_t_6_27 (fun c_83 => ?_) (fun c_83 => absurd (by decide) c_83)
          refine lv_iload_n hx hb dX10_bytesIn_33 rfl (lv_at hl 1 rfl) ?_
          have hk : kCnt p0 = 1 := by simp [kCnt, kC1, hy_4, hy_68, hy_74, hy_80, c_5, c_69, c_75, c_81]
          rw [hQ]
          exact W.iret (v := 1) hx hb hr (fun t ht hW => ⟨1, rfl, (by rw [hk]; rfl), ht⟩) (fun _ h => nomatch h) dX10_bytesIn_34
        · refine lv_iconst (v := 1) hx hb dX10_bytesIn_20 kc_i_1 ?_
          refine lv_goto (tgt := 25) hx hb dX10_bytesIn_21 kc_t_21_4 ?_
          refine lv_iadd hx hb dX10_bytesIn_25 ?_
          refine lv_topi (fun y_84 ey_84 => ?_)
          obtain rfl : y_84 = 2 := ey_84.trans (by decide)
          refine lv_istore_n hx hb dX10_bytesIn_26 rfl hl kc_l_1_3 (kTo [(1, .int 2), (2, .int 0), (0, .int p0)]) (fun ls hl => ?_)
          refine lv_iinc (v := (-8)) hx hb dX10_bytesIn_27 hl (k := 1) rfl (by decide) kc_l_2_3 (kTo [(2, .int (-8)), (1, .int 2), (0, .int p0)]) (fun ls hl => ?_)
          refine lv_goto (tgt := 5) hx hb dX10_bytesIn_30 kc_t_30_m25 ?_
          refine lv_iload_n hx hb dX10_bytesIn_5 rfl (lv_at hl 0 rfl) ?_
          refine lv_if_lt (tgt := 33) hx hb dX10_bytesIn_6 kc_t_6_27 (fun c_85 => ?_) (fun c_85 => absurd (by decide) c_85)
          refine lv_iload_n hx hb dX10_bytesIn_33 rfl (lv_at hl 1 rfl) ?_
          have hk : kCnt p0 = 2 := by simp [kCnt, kC1, hy_4, hy_68, hy_74, hy_80, c_5, c_69, c_75, c_81]
          rw [hQ]
          exact W.iret (v := 2) hx hb hr (fun t ht hW => ⟨2, rfl, (by rw [hk]; rfl), ht⟩) (fun _ h => nomatch h) dX10_bytesIn_34
      · refine lv_iconst (v := 1) hx hb dX10_bytesIn_20 kc_i_1 ?_
        refine lv_goto (tgt := 25) hx hb dX10_bytesIn_21 kc_t_21_4 ?_
        refine lv_iadd hx hb dX10_bytesIn_25 ?_
        refine lv_topi (fun y_86 ey_86 => ?_)
        obtain rfl : y_86 = 2 := ey_86.trans (by decide)
        refine lv_istore_n hx hb dX10_bytesIn_26 rfl hl kc_l_1_3 (kTo [(1, .int 2), (2, .int 8), (0, .int p0)]) (fun ls hl => ?_)
        refine lv_iinc (v := 0) hx hb dX10_bytesIn_27 hl (k := 1) rfl (by decide) kc_l_2_3 (kTo [(2, .int 0), (1, .int 2), (0, .int p0)]) (fun ls hl => ?_)
        refine lv_goto (tgt := 5) hx hb dX10_bytesIn_30 kc_t_30_m25 ?_
        refine lv_iload_n hx hb dX10_bytesIn_5 rfl (lv_at hl 0 rfl) ?_
        refine lv_if_lt (tgt := 33) hx hb dX10_bytesIn_6 kc_t_6_27 (fun c_87 => absurd c_87 (by decide)) (fun c_87 => ?_)
        refine lv_iload_n hx hb dX10_bytesIn_9 rfl (lv_at hl 1 rfl) ?_
        refine lv_iload_n hx hb dX10_bytesIn_10 rfl (lv_at hl 2 rfl) ?_
        refine lv_iload_n hx hb dX10_bytesIn_11 rfl (lv_at hl 0 rfl) ?_
        refine lv_ishr hx hb dX10_bytesIn_12 ?_
        refine lv_topi (fun x_88 ex_88 => ?_)
        refine lv_sipush (v := 255) hx hb dX10_bytesIn_13 kc_s_255 ?_
        refine lv_iand hx hb dX10_bytesIn_16 ?_
        refine lv_topi (fun x_89 ex_89 => ?_)
        have hy_90 : kS p0 0 = x_89 := by rw [ex_89, ex_88]; rfl
        refine lv_if_eq (tgt := 24) hx hb dX10_bytesIn_17 kc_t_17_7 (fun c_91 => ?_) (fun c_91 => ?_)
        · refine lv_iconst (v := 0) hx hb dX10_bytesIn_24 kc_i_0 ?_
          refine lv_iadd hx hb dX10_bytesIn_25 ?_
          refine lv_topi (fun y_92 ey_92 => ?_)
          obtain rfl : y_92 = 2 := ey_92.trans (by decide)
          refine lv_istore_n hx hb dX10_bytesIn_26 rfl hl kc_l_1_3 (kTo [(1, .int 2), (2, .int 0), (0, .int p0)]) (fun ls hl => ?_)
          refine lv_iinc (v := (-8)) hx hb dX10_bytesIn_27 hl (k := 1) rfl (by decide) kc_l_2_3 (kTo [(2, .int (-8)), (1, .int 2), (0, .int p0)]) (fun ls hl => ?_)
          refine lv_goto (tgt := 5) hx hb dX10_bytesIn_30 kc_t_30_m25 ?_
          refine lv_iload_n hx hb dX10_bytesIn_5 rfl (lv_at hl 0 rfl) ?_
          refine lv_if_lt (tgt := 33) hx hb dX10_bytesIn_6 kc_t_6_27 (fun c_93 => ?_) (fun c_93 => absurd (by decide) c_93)
          refine lv_iload_n hx hb dX10_bytesIn_33 rfl (lv_at hl 1 rfl) ?_
          have hk : kCnt p0 = 2 := by simp [kCnt, kC1, hy_4, hy_68, hy_74, hy_90, c_5, c_69, c_75, c_91]
          rw [hQ]
          exact W.iret (v := 2) hx hb hr (fun t ht hW => ⟨2, rfl, (by rw [hk]; rfl), ht⟩) (fun _ h => nomatch h) dX10_bytesIn_34
        · refine lv_iconst (v := 1) hx hb dX10_bytesIn_20 kc_i_1 ?_
          refine lv_goto (tgt := 25) hx hb dX10_bytesIn_21 kc_t_21_4 ?_
          refine lv_iadd hx hb dX10_bytesIn_25 ?_
          refine lv_topi (fun y_94 ey_94 => ?_)
          obtain rfl : y_94 = 3 := ey_94.trans (by decide)
          refine lv_istore_n hx hb dX10_bytesIn_26 rfl hl kc_l_1_3 (kTo [(1, .int 3), (2, .int 0), (0, .int p0)]) (fun ls hl => ?_)
          refine lv_iinc (v := (-8)) hx hb dX10_bytesIn_27 hl (k := 1) rfl (by decide) kc_l_2_3 (kTo [(2, .int (-8)), (1, .int 3), (0, .int p0)]) (fun ls hl => ?_)
          refine lv_goto (tgt := 5) hx hb dX10_bytesIn_30 kc_t_30_m25 ?_
          refine lv_iload_n hx hb dX10_bytesIn_5 rfl (lv_at hl 0 rfl) ?_
          refine lv_if_lt (tgt := 33) hx hb dX10_bytesIn_6 kc_t_6_27 (fun c_95 => ?_) (fun c_95 => absurd (by decide) c_95)
          refine lv_iload_n hx hb dX10_bytesIn_33 rfl (lv_at hl 1 rfl) ?_
          have hk : kCnt p0 = 3 := by simp [kCnt, kC1, hy_4, hy_68, hy_74, hy_90, c_5, c_69, c_75, c_91]
          rw [hQ]
          exact W.iret (v := 3) hx hb hr (fun t ht hW => ⟨3, rfl, (by rw [hk]; rfl), ht⟩) (fun _ h => nomatch h) dX10_bytesIn_34
    · refine lv_iconst (v := 1) hx hb dX10_bytesIn_20 kc_i_1 ?_
      refine lv_goto (tgt := 25) hx hb dX10_bytesIn_21 kc_t_21_4 ?_
      refine lv_iadd hx hb dX10_bytesIn_25 ?_
      refine lv_topi (fun y_96 ey_96 => ?_)
      obtain rfl : y_96 = 2 := ey_96.trans (by decide)
      refine lv_istore_n hx hb dX10_bytesIn_26 rfl hl kc_l_1_3 (kTo [(1, .int 2), (2, .int 16), (0, .int p0)]) (fun ls hl => ?_)
      refine lv_iinc (v := 8) hx hb dX10_bytesIn_27 hl (k := 1) rfl (by decide) kc_l_2_3 (kTo [(2, .int 8), (1, .int 2), (0, .int p0)]) (fun ls hl => ?_)
      refine lv_goto (tgt := 5) hx hb dX10_bytesIn_30 kc_t_30_m25 ?_
      refine lv_iload_n hx hb dX10_bytesIn_5 rfl (lv_at hl 0 rfl) ?_
      refine lv_if_lt (tgt := 33) hx hb dX10_bytesIn_6 kc_t_6_27 (fun c_97 => absurd c_97 (by decide)) (fun c_97 => ?_)
      refine lv_iload_n hx hb dX10_bytesIn_9 rfl (lv_at hl 1 rfl) ?_
      refine lv_iload_n hx hb dX10_bytesIn_10 rfl (lv_at hl 2 rfl) ?_
      refine lv_iload_n hx hb dX10_bytesIn_11 rfl (lv_at hl 0 rfl) ?_
      refine lv_ishr hx hb dX10_bytesIn_12 ?_
      refine lv_topi (fun x_98 ex_98 => ?_)
      refine lv_sipush (v := 255) hx hb dX10_bytesIn_13 kc_s_255 ?_
      refine lv_iand hx hb dX10_bytesIn_16 ?_
      refine lv_topi (fun x_99 ex_99 => ?_)
      have hy_100 : kS p0 8 = x_99 := by rw [ex_99, ex_98]; rfl
      refine lv_if_eq (tgt := 24) hx hb dX10_bytesIn_17 kc_t_17_7 (fun c_101 => ?_) (fun c_101 => ?_)
      · refine lv_iconst (v := 0) hx hb dX10_bytesIn_24 kc_i_0 ?_
        refine lv_iadd hx hb dX10_bytesIn_25 ?_
        refine lv_topi (fun y_102 ey_102 => ?_)
        obtain rfl : y_102 = 2 := ey_102.trans (by decide)
        refine lv_istore_n hx hb dX10_bytesIn_26 rfl hl kc_l_1_3 (kTo [(1, .int 2), (2, .int 8), (0, .int p0)]) (fun ls hl => ?_)
        refine lv_iinc (v := 0) hx hb dX10_bytesIn_27 hl (k := 1) rfl (by decide) kc_l_2_3 (kTo [(2, .int 0), (1, .int 2), (0, .int p0)]) (fun ls hl => ?_)
        refine lv_goto (tgt := 5) hx hb dX10_bytesIn_30 kc_t_30_m25 ?_
        refine lv_iload_n hx hb dX10_bytesIn_5 rfl (lv_at hl 0 rfl) ?_
        refine lv_if_lt (tgt := 33) hx hb dX10_bytesIn_6 kc_t_6_27 (fun c_103 => absurd c_103 (by decide)) (fun c_103 => ?_)
        refine lv_iload_n hx hb dX10_bytesIn_9 rfl (lv_at hl 1 rfl) ?_
        refine lv_iload_n hx hb dX10_bytesIn_10 rfl (lv_at hl 2 rfl) ?_
        refine lv_iload_n hx hb dX10_bytesIn_11 rfl (lv_at hl 0 rfl) ?_
        refine lv_ishr hx hb dX10_bytesIn_12 ?_
        refine lv_topi (fun x_104 ex_104 => ?_)
        refine lv_sipush (v := 255) hx hb dX10_bytesIn_13 kc_s_255 ?_
        refine lv_iand hx hb dX10_bytesIn_16 ?_
        refine lv_topi (fun x_105 ex_105 => ?_)
        have hy_106 : kS p0 0 = x_105 := by rw [ex_105, ex_104]; rfl
        refine lv_if_eq (tgt := 24) hx hb dX10_bytesIn_17 kc_t_17_7 (fun c_107 => ?_) (fun c_107 => ?_)
        · refine lv_iconst (v := 0) hx hb dX10_bytesIn_24 kc_i_0 ?_
          refine lv_iadd hx hb dX10_bytesIn_25 ?_
          refine lv_topi (fun y_108 ey_108 => ?_)
          obtain rfl : y_108 = 2 := ey_108.trans (by decide)
          refine lv_istore_n hx hb dX10_bytesIn_26 rfl hl kc_l_1_3 (kTo [(1, .int 2), (2, .int 0), (0, .int p0)]) (fun ls hl => ?_)
          refine lv_iinc (v := (-8)) hx hb dX10_bytesIn_27 hl (k := 1) rfl (by decide) kc_l_2_3 (kTo [(2, .int (-8)), (1, .int 2), (0, .int p0)]) (fun ls hl => ?_)
          refine lv_goto (tgt := 5) hx hb dX10_bytesIn_30 kc_t_30_m25 ?_
          refine lv_iload_n hx hb dX10_bytesIn_5 rfl (lv_at hl 0 rfl) ?_
          refine lv_if_lt (tgt := 33) hx hb dX10_bytesIn_6 kc_t_6_27 (fun c_109 => ?_) (fun c_109 => absurd (by decide) c_109)
          refine lv_iload_n hx hb dX10_bytesIn_33 rfl (lv_at hl 1 rfl) ?_
          have hk : kCnt p0 = 2 := by simp [kCnt, kC1, hy_4, hy_68, hy_100, hy_106, c_5, c_69, c_101, c_107]
          rw [hQ]
          exact W.iret (v := 2) hx hb hr (fun t ht hW => ⟨2, rfl, (by rw [hk]; rfl), ht⟩) (fun _ h => nomatch h) dX10_bytesIn_34
        · refine lv_iconst (v := 1) hx hb dX10_bytesIn_20 kc_i_1 ?_
          refine lv_goto (tgt := 25) hx hb dX10_bytesIn_21 kc_t_21_4 ?_
          refine lv_iadd hx hb dX10_bytesIn_25 ?_
          refine lv_topi (fun y_110 ey_110 => ?_)
          obtain rfl : y_110 = 3 := ey_110.trans (by decide)
          refine lv_istore_n hx hb dX10_bytesIn_26 rfl hl kc_l_1_3 (kTo [(1, .int 3), (2, .int 0), (0, .int p0)]) (fun ls hl => ?_)
          refine lv_iinc (v := (-8)) hx hb dX10_bytesIn_27 hl (k := 1) rfl (by decide) kc_l_2_3 (kTo [(2, .int (-8)), (1, .int 3), (0, .int p0)]) (fun ls hl => ?_)
          refine lv_goto (tgt := 5) hx hb dX10_bytesIn_30 kc_t_30_m25 ?_
          refine lv_iload_n hx hb dX10_bytesIn_5 rfl (lv_at hl 0 rfl) ?_
          refine lv_if_lt (tgt := 33) hx hb dX10_bytesIn_6 kc_t_6_27 (fun c_111 => ?_) (fun c_111 => absurd (by decide) c_111)
          refine lv_iload_n hx hb dX10_bytesIn_33 rfl (lv_at hl 1 rfl) ?_
          have hk : kCnt p0 = 3 := by simp [kCnt, kC1, hy_4, hy_68, hy_100, hy_106, c_5, c_69, c_101, c_107]
          rw [hQ]
          exact W.iret (v := 3) hx hb hr (fun t ht hW => ⟨3, rfl, (by rw [hk]; rfl), ht⟩) (fun _ h => nomatch h) dX10_bytesIn_34
      · refine lv_iconst (v := 1) hx hb dX10_bytesIn_20 kc_i_1 ?_
        refine lv_goto (tgt := 25) hx hb dX10_bytesIn_21 kc_t_21_4 ?_
        refine lv_iadd hx hb dX10_bytesIn_25 ?_
        refine lv_topi (fun y_112 ey_112 => ?_)
        obtain rfl : y_112 = 3 := ey_112.trans (by decide)
        refine lv_istore_n hx hb dX10_bytesIn_26 rfl hl kc_l_1_3 (kTo [(1, .int 3), (2, .int 8), (0, .int p0)]) (fun ls hl => ?_)
        refine lv_iinc (v := 0) hx hb dX10_bytesIn_27 hl (k := 1) rfl (by decide) kc_l_2_3 (kTo [(2, .int 0), (1, .int 3), (0, .int p0)]) (fun ls hl => ?_)
        refine lv_goto (tgt := 5) hx hb dX10_bytesIn_30 kc_t_30_m25 ?_
        refine lv_iload_n hx hb dX10_bytesIn_5 rfl (lv_at hl 0 rfl) ?_
        refine lv_if_lt (tgt := 33) hx hb dX10_bytesIn_6 kc_t_6_27 (fun c_113 => absurd c_113 (by decide)) (fun c_113 => ?_)
        refine lv_iload_n hx hb dX10_bytesIn_9 rfl (lv_at hl 1 rfl) ?_
        refine lv_iload_n hx hb dX10_bytesIn_10 rfl (lv_at hl 2 rfl) ?_
        refine lv_iload_n hx hb dX10_bytesIn_11 rfl (lv_at hl 0 rfl) ?_
        refine lv_ishr hx hb dX10_bytesIn_12 ?_
        refine lv_topi (fun x_114 ex_114 => ?_)
        refine lv_sipush (v := 255) hx hb dX10_bytesIn_13 kc_s_255 ?_
        refine lv_iand hx hb dX10_bytesIn_16 ?_
        refine lv_topi (fun x_115 ex_115 => ?_)
        have hy_116 : kS p0 0 = x_115 := by rw [ex_115, ex_114]; rfl
        refine lv_if_eq (tgt := 24) hx hb dX10_bytesIn_17 kc_t_17_7 (fun c_117 => ?_) (fun c_117 => ?_)
        · refine lv_iconst (v := 0) hx hb dX10_bytesIn_24 kc_i_0 ?_
          refine lv_iadd hx hb dX10_bytesIn_25 ?_
          refine lv_topi (fun y_118 ey_118 => ?_)
          obtain rfl : y_118 = 3 := ey_118.trans (by decide)
          refine lv_istore_n hx hb dX10_bytesIn_26 rfl hl kc_l_1_3 (kTo [(1, .int 3), (2, .int 0), (0, .int p0)]) (fun ls hl => ?_)
          refine lv_iinc (v := (-8)) hx hb dX10_bytesIn_27 hl (k := 1) rfl (by decide) kc_l_2_3 (kTo [(2, .int (-8)), (1, .int 3), (0, .int p0)]) (fun ls hl => ?_)
          refine lv_goto (tgt := 5) hx hb dX10_bytesIn_30 kc_t_30_m25 ?_
          refine lv_iload_n hx hb dX10_bytesIn_5 rfl (lv_at hl 0 rfl) ?_
          refine lv_if_lt (tgt := 33) hx hb dX10_bytesIn_6 kc_t_6_27 (fun c_119 => ?_) (fun c_119 => absurd (by decide) c_119)
          refine lv_iload_n hx hb dX10_bytesIn_33 rfl (lv_at hl 1 rfl) ?_
          have hk : kCnt p0 = 3 := by simp [kCnt, kC1, hy_4, hy_68, hy_100, hy_116, c_5, c_69, c_101, c_117]
          rw [hQ]
          exact W.iret (v := 3) hx hb hr (fun t ht hW => ⟨3, rfl, (by rw [hk]; rfl), ht⟩) (fun _ h => nomatch h) dX10_bytesIn_34
        · refine lv_iconst (v := 1) hx hb dX10_bytesIn_20 kc_i_1 ?_
          refine lv_goto (tgt := 25) hx hb dX10_bytesIn_21 kc_t_21_4 ?_
          refine lv_iadd hx hb dX10_bytesIn_25 ?_
          refine lv_topi (fun y_120 ey_120 => ?_)
          obtain rfl : y_120 = 4 := ey_120.trans (by decide)
          refine lv_istore_n hx hb dX10_bytesIn_26 rfl hl kc_l_1_3 (kTo [(1, .int 4), (2, .int 0), (0, .int p0)]) (fun ls hl => ?_)
          refine lv_iinc (v := (-8)) hx hb dX10_bytesIn_27 hl (k := 1) rfl (by decide) kc_l_2_3 (kTo [(2, .int (-8)), (1, .int 4), (0, .int p0)]) (fun ls hl => ?_)
          refine lv_goto (tgt := 5) hx hb dX10_bytesIn_30 kc_t_30_m25 ?_
          refine lv_iload_n hx hb dX10_bytesIn_5 rfl (lv_at hl 0 rfl) ?_
          refine lv_if_lt (tgt := 33) hx hb dX10_bytesIn_6 kc_t_6_27 (fun c_121 => ?_) (fun c_121 => absurd (by decide) c_121)
          refine lv_iload_n hx hb dX10_bytesIn_33 rfl (lv_at hl 1 rfl) ?_
          have hk : kCnt p0 = 4 := by simp [kCnt, kC1, hy_4, hy_68, hy_100, hy_116, c_5, c_69, c_101, c_117]
          rw [hQ]
          exact W.iret (v := 4) hx hb hr (fun t ht hW => ⟨4, rfl, (by rw [hk]; rfl), ht⟩) (fun _ h => nomatch h) dX10_bytesIn_34

theorem dX10_put_0 : decode cX10_put 0 = .ok (.bipush 24, 2) := kDs3 kf_16 (by decide +kernel)
theorem dX10_put_2 : decode cX10_put 2 = .ok (.istore_n 2, 1) := kDs0 kf_61 (by decide +kernel)
theorem dX10_put_3 : decode cX10_put 3 = .ok (.iload_n 2, 1) := kDs0 kf_28 (by decide +kernel)
theorem dX10_put_4 : decode cX10_put 4 = .ok (.ifCond .lt 45, 3) := kDs4 kf_155 (by decide +kernel)
theorem dX10_put_7 : decode cX10_put 7 = .ok (.iload_n 1, 1) := kDs0 kf_27 (by decide +kernel)
theorem dX10_put_8 : decode cX10_put 8 = .ok (.iload_n 2, 1) := kDs0 kf_28 (by decide +kernel)
theorem dX10_put_9 : decode cX10_put 9 = .ok (.ishr, 1) := kDs0 kf_122 (by decide +kernel)
theorem dX10_put_10 : decode cX10_put 10 = .ok (.sipush 255, 3) := kDs4 kf_17 (by decide +kernel)
theorem dX10_put_13 : decode cX10_put 13 = .ok (.iand, 1) := kDs0 kf_126 (by decide +kernel)
theorem dX10_put_14 : decode cX10_put 14 = .ok (.ifCond .ne 6, 3) := kDs4 kf_154 (by decide +kernel)
theorem dX10_put_20 : decode cX10_put 20 = .ok (.aload_n 0, 1) := kDs0 kf_42 (by decide +kernel)
theorem dX10_put_21 : decode cX10_put 21 = .ok (.getfield 9, 3) := kDs2 kf_180 (by decide +kernel)
theorem dX10_put_24 : decode cX10_put 24 = .ok (.aload_n 0, 1) := kDs0 kf_42 (by decide +kernel)
theorem dX10_put_25 : decode cX10_put 25 = .ok (.getfield 131, 3) := kDs2 kf_180 (by decide +kernel)
theorem dX10_put_28 : decode cX10_put 28 = .ok (.iload_n 1, 1) := kDs0 kf_27 (by decide +kernel)
theorem dX10_put_29 : decode cX10_put 29 = .ok (.iload_n 2, 1) := kDs0 kf_28 (by decide +kernel)
theorem dX10_put_30 : decode cX10_put 30 = .ok (.ishr, 1) := kDs0 kf_122 (by decide +kernel)
theorem dX10_put_31 : decode cX10_put 31 = .ok (.i2b, 1) := kDs0 kf_145 (by decide +kernel)
theorem dX10_put_32 : decode cX10_put 32 = .ok (.bastore, 1) := kDs0 kf_84 (by decide +kernel)
theorem dX10_put_33 : decode cX10_put 33 = .ok (.aload_n 0, 1) := kDs0 kf_42 (by decide +kernel)
theorem dX10_put_34 : decode cX10_put 34 = .ok (.dup, 1) := kDs0 kf_89 (by decide +kernel)
theorem dX10_put_35 : decode cX10_put 35 = .ok (.getfield 131, 3) := kDs2 kf_180 (by decide +kernel)
theorem dX10_put_38 : decode cX10_put 38 = .ok (.iconst 1, 1) := kDs0 kf_4 (by decide +kernel)
theorem dX10_put_39 : decode cX10_put 39 = .ok (.iadd, 1) := kDs0 kf_96 (by decide +kernel)
theorem dX10_put_40 : decode cX10_put 40 = .ok (.putfield 131, 3) := kDs2 kf_181 (by decide +kernel)
theorem dX10_put_43 : decode cX10_put 43 = .ok (.iinc 2 (-8), 3) := kDs5 kf_132 (by decide +kernel)
theorem dX10_put_46 : decode cX10_put 46 = .ok (.goto (-43), 3) := kDs4 kf_167 (by decide +kernel)
theorem dX10_put_49 : decode cX10_put 49 = .ok (.return_, 1) := kDs0 kf_177 (by decide +kernel)
theorem dX10_put_17 : decode cX10_put 17 = .ok (.goto 26, 3) := kDs4 kf_167 (by decide +kernel)
def w_s_put10x : List Cond := .code yX10_put cX10_put 3 none :: ([.fieldLink RX10 9 "NotEndedModel" "tape" "[B", .fieldLink RX10 131 "NotEndedModel" "length" "I"] ++ (wsX100))
theorem gw_s_put10x : (w_s_put10x).all goodWord = true := kGc rfl (kGa (by decide +kernel) gw_wsX100)
theorem hd_X10_put : yX10_put.cls ≠ "java/lang/invoke/MethodHandle" ∧ yX10_put.cls ≠ "java/lang/invoke/VarHandle" ∧ (parseMethodDescriptor yX10_put.desc).map (fun d => d.parameters.length) = some 1 := by decide +kernel
set_option maxHeartbeats 4000000 in
set_option maxRecDepth 100000 in
theorem s_put10x (l : Launch) (dC : Nat → ClassId) (dI : Nat → Nat → Nat) (jM : Nat) (m1 : Nat) (mc1 : ClassId) (g : Nat → Int32) (v0 : Value) (v2 : Value) (v3 : Value) (v4 : Value) (v5 : Value) (v7 : Value) (v8 : Value) (v9 : Value) (v10 : Value) (v11 : Value) (v12 : Value) (v13 : Value) (v14 : Value) (v15 : Value) (v16 : Value) (v17 : Value) (v18 : Value) (v19 : Value) (v20 : Value) (v21 : Value) (v22 : Value) (v23 : Value) (v24 : Value) (v25 : Value) (v26 : Value) (v27 : Value) (v28 : Value) (v29 : Value) (v30 : Value) (v31 : Value) (v32 : Value) (v33 : Value) (v34 : Value) (v35 : Value) (v36 : Value) (v37 : Value) (v38 : Value) (v39 : Value) (v40 : Value) (v41 : Value) (v42 : Value) (v43 : Value) (v44 : Value) (v45 : Value) (v46 : Value) (v47 : Value) (v48 : Value) (v49 : Value) (v50 : Value) (v51 : Value) (k : Nat) (p0 : Int32) (hk : k + kCnt p0 ≤ 120) (bt : Nat → Nat) (hbm : ∀ j : Nat, g j = kSg (bt j)) (hb8 : ∀ j : Nat, bt j < 256) (sz : Nat) : Met l yX10_put w_s_put10x ({ frames := 1, cells := 0, slots := 0, locals := 60 }) (kW dC dI [.ref jM, .int p0] [(jM, .inr (10, [v0, .ref m1, v2, v3, v4, v5, .int (nI (k)), v7, v8, v9, v10, v11, v12, v13, v14, v15, v16, v17, v18, v19, v20, v21, v22, v23, v24, v25, v26, v27, v28, v29, v30, v31, v32, v33, v34, v35, v36, v37, v38, v39, v40, v41, v42, v43, v44, v45, v46, v47, v48, v49, v50, v51])), (m1, .inl (mc1, 120, .inl g))] [(mc1, .byte)] kT sz) (va_Qv (fun (u : (Nat → Int32) × (Nat → Nat)) => match u with | (g1, tU) => (kPut p0 (bt, k) = (tU, k + kCnt p0) ∧ (∀ j : Nat, g1 j = kSg (tU j)) ∧ (∀ j : Nat, tU j < 256))) (fun (u : (Nat → Int32) × (Nat → Nat)) => match u with | (g1, tU) => fun t : State => kB dC dI [(jM, .inr (10, [v0, .ref m1, v2, v3, v4, v5, .int (nI (k + kCnt p0)), v7, v8, v9, v10, v11, v12, v13, v14, v15, v16, v17, v18, v19, v20, v21, v22, v23, v24, v25, v26, v27, v28, v29, v30, v31, v32, v33, v34, v35, v36, v37, v38, v39, v40, v41, v42, v43, v44, v45, v46, v47, v48, v49, v50, v51])), (m1, .inl (mc1, 120, .inl g1))] [(mc1, .byte)] (va_A [(jM, .inr (10, [v0, .ref m1, v2, v3, v4, v5, .int (nI (k)), v7, v8, v9, v10, v11, v12, v13, v14, v15, v16, v17, v18, v19, v20, v21, v22, v23, v24, v25, v26, v27, v28, v29, v30, v31, v32, v33, v34, v35, v36, v37, v38, v39, v40, v41, v42, v43, v44, v45, v46, v47, v48, v49, v50, v51])), (m1, .inl (mc1, 120, .inl g))] sz) t) (va_A [(jM, .inr (10, [v0, .ref m1, v2, v3, v4, v5, .int (nI (k)), v7, v8, v9, v10, v11, v12, v13, v14, v15, v16, v17, v18, v19, v20, v21, v22, v23, v24, v25, v26, v27, v28, v29, v30, v31, v32, v33, v34, v35, v36, v37, v38, v39, v40, v41, v42, v43, v44, v45, v46, v47, v48, v49, v50, v51])), (m1, .inl (mc1, 120, .inl g))] sz)) 0 0 (va_A [(jM, .inr (10, [v0, .ref m1, v2, v3, v4, v5, .int (nI (k)), v7, v8, v9, v10, v11, v12, v13, v14, v15, v16, v17, v18, v19, v20, v21, v22, v23, v24, v25, v26, v27, v28, v29, v30, v31, v32, v33, v34, v35, v36, v37, v38, v39, v40, v41, v42, v43, v44, v45, v46, v47, v48, v49, v50, v51])), (m1, .inl (mc1, 120, .inl g))] sz) := by
  refine Met.ofW (cc := cX10_put) (maxL := 3) (ret := none) (by decide) rfl ?_
  intro p e s m args below meth c s₁ B hml hv
  obtain ⟨rfl, hsz, hP, hK, hD0, hX⟩ := hv
  have hx := B.exec
  have hb := B.bytes
  have hr := B.returns
  have hts := atoms_spec (ws := w_s_put10x) B.pre
  have hown : s.vm.findClass RX10 = some m.cls := findClass_of_methodNamed B.named
  have hlocks := B.notSynchronized
  subst hsz
  have hD := hD0.self (sz := s.heap.size)
  generalize hAe : va_A [(jM, .inr (10, [v0, .ref m1, v2, v3, v4, v5, .int (nI (k)), v7, v8, v9, v10, v11, v12, v13, v14, v15, v16, v17, v18, v19, v20, v21, v22, v23, v24, v25, v26, v27, v28, v29, v30, v31, v32, v33, v34, v35, v36, v37, v38, v39, v40, v41, v42, v43, v44, v45, v46, v47, v48, v49, v50, v51])), (m1, .inl (mc1, 120, .inl g))] s.heap.size = A at hD ⊢
  have hA : ∀ q : Nat, s.heap.size ≤ q → A q := fun q h => by rw [← hAe]; exact Or.inr h
  have hS : va_S A s.heap s.heap [] := va_S.rf
  have hP : va_P (dC, dI) vwCl [(jM, .inr (10, [v0, .ref m1, v2, v3, v4, v5, .int (nI (k)), v7, v8, v9, v10, v11, v12, v13, v14, v15, v16, v17, v18, v19, v20, v21, v22, v23, v24, v25, v26, v27, v28, v29, v30, v31, v32, v33, v34, v35, v36, v37, v38, v39, v40, v41, v42, v43, v44, v45, v46, v47, v48, v49, v50, v51])), (m1, .inl (mc1, 120, .inl g))] s.heap := hP
  have hl := lv_entry ([.ref jM, .int p0]) (n := 3) (Nat.le_of_ble_eq_true rfl)
  rw [lg_entry_eq]
  generalize (lg_sl ([.ref jM, .int p0]) ++ List.replicate (3 - (lg_sl ([.ref jM, .int p0])).length) Slot.unset).toArray = ls at hl ⊢
  have hl : lv_has ls 3 [(0, .ref jM), (1, .int p0)] := hl
  refine kQ (fun Q hQ => ?_)
  have hu9 : kCnt p0 = kC1 p0 24 + kC1 p0 16 + kC1 p0 8 + kC1 p0 0 := rfl
  refine lv_bipush (v := 24) hx hb dX10_put_0 kc_b_24 ?_
  refine lv_istore_n hx hb dX10_put_2 rfl hl kc_l_2_3 (kTo [(2, .int 24), (0, .ref jM), (1, .int p0)]) (fun ls hl => ?_)
  refine lv_iload_n hx hb dX10_put_3 rfl (lv_at hl 0 rfl) ?_
  refine lv_if_lt (tgt := 49) hx hb dX10_put_4 kc_t_4_45 (fun c_1 => absurd c_1 (by decide)) (fun c_1 => ?_)
  refine lv_iload_n hx hb dX10_put_7 rfl (lv_at hl 2 rfl) ?_
  refine lv_iload_n hx hb dX10_put_8 rfl (lv_at hl 0 rfl) ?_
  refine lv_ishr hx hb dX10_put_9 ?_
  refine lv_topi (fun x_2 ex_2 => ?_)
  refine lv_sipush (v := 255) hx hb dX10_put_10 kc_s_255 ?_
  refine lv_iand hx hb dX10_put_13 ?_
  refine lv_topi (fun x_3 ex_3 => ?_)
  have hy_4 : kS p0 24 = x_3 := by rw [ex_3, ex_2]; rfl
  refine lv_if_ne (tgt := 20) hx hb dX10_put_14 kc_t_14_6 (fun c_5 => ?_) (fun c_5 => ?_)
  · refine lv_aload_n hx hb dX10_put_20 rfl (lv_at hl 1 rfl) ?_
    refine va_get (D := (dC, dI)) (ci := 10) (v := .ref m1) (C := RX10) (T := TX10) (N := 52) hx hb hts (fun _ h => List.mem_cons_of_mem _ (List.mem_append_right _ h)) hown hK hP 0 rfl rfl 1 kc_l_1_52 (hts (.fieldLink RX10 9 "NotEndedModel" "tape" "[B") (List.mem_cons_of_mem _ (List.mem_append_left _ (List.mem_of_getElem? (i := 0) rfl)))) (fun _ h9 => h9) rfl dX10_put_21 ?_
    refine lv_aload_n hx hb dX10_put_24 rfl (lv_at hl 1 rfl) ?_
    refine va_get (D := (dC, dI)) (ci := 10) (v := .int (nI (k))) (C := RX10) (T := TX10) (N := 52) hx hb hts (fun _ h => List.mem_cons_of_mem _ (List.mem_append_right _ h)) hown hK hP 0 rfl rfl 6 kc_l_6_52 (hts (.fieldLink RX10 131 "NotEndedModel" "length" "I") (List.mem_cons_of_mem _ (List.mem_append_left _ (List.mem_of_getElem? (i := 1) rfl)))) (fun _ h9 => h9) rfl dX10_put_25 ?_
    refine lv_iload_n hx hb dX10_put_28 rfl (lv_at hl 2 rfl) ?_
    refine lv_iload_n hx hb dX10_put_29 rfl (lv_at hl 0 rfl) ?_
    refine lv_ishr hx hb dX10_put_30 ?_
    refine lv_topi (fun x_6 ex_6 => ?_)
    obtain ⟨x_7, ex_7⟩ : ∃ z : Int32, z = (Int32.toInt8 x_6).toInt32 := ⟨_, rfl⟩
    refine lv_i2b (v := x_7) hx hb dX10_put_31 ex_7.symm ?_
    have hc_8 : kC1 p0 24 = 1 := by simp [kC1, hy_4, c_5]
    refine va_bast hx hb hK hP hD hS 1 0 rfl rfl (vp_in_nI (n := k) (N := 120) (by omega) (by decide)) dX10_put_32 (fun H locs hP hD hS => ?_)
    obtain ⟨f_9, ef_9⟩ : ∃ gg9 : Nat → Int32, gg9 = upd g (Int32.toNatClampNeg (nI (k))) (vp_nar .byte x_7) := ⟨_, rfl⟩
    have hPD : kPD dC dI A [(jM, .inr (10, [v0, .ref m1, v2, v3, v4, v5, .int (nI (k)), v7, v8, v9, v10, v11, v12, v13, v14, v15, v16, v17, v18, v19, v20, v21, v22, v23, v24, v25, v26, v27, v28, v29, v30, v31, v32, v33, v34, v35, v36, v37, v38, v39, v40, v41, v42, v43, v44, v45, v46, v47, v48, v49, v50, v51])), (m1, .inl (mc1, 120, .inl f_9))] H := by rw [ef_9]; exact ⟨hP, hD⟩
    obtain ⟨hP, hD⟩ := hPD
    refine lv_aload_n hx hb dX10_put_33 rfl (lv_at hl 1 rfl) ?_
    refine lv_dup hx hb dX10_put_34 rfl ?_
    refine va_get (D := (dC, dI)) (ci := 10) (v := .int (nI (k))) (C := RX10) (T := TX10) (N := 52) hx hb hts (fun _ h => List.mem_cons_of_mem _ (List.mem_append_right _ h)) hown hK hP 0 rfl rfl 6 kc_l_6_52 (hts (.fieldLink RX10 131 "NotEndedModel" "length" "I") (List.mem_cons_of_mem _ (List.mem_append_left _ (List.mem_of_getElem? (i := 1) rfl)))) (fun _ h9 => h9) rfl dX10_put_35 ?_
    refine lv_iconst (v := 1) hx hb dX10_put_38 kc_i_1 ?_
    refine lv_iadd hx hb dX10_put_39 ?_
    refine lv_topi (fun y_10 ey_10 => ?_)
    obtain rfl : y_10 = nI (k + 1) := ey_10.trans (nI_add (k) (1))
    refine va_put (D := (dC, dI)) (ci := 10) (v := .int (nI (k + 1))) (ty := tyX10 6) (C := RX10) (T := TX10) (N := 52) hx hb hts (fun _ h => List.mem_cons_of_mem _ (List.mem_append_right _ h)) tyX10 tyX10_ok nmX10 hown hK hP hD hS 0 rfl rfl 6 kc_l_6_52 (hts (.fieldLink RX10 131 "NotEndedModel" "length" "I") (List.mem_cons_of_mem _ (List.mem_append_left _ (List.mem_of_getElem? (i := 1) rfl)))) (fun _ h9 => h9) rfl (tyX10_ok 6 kc_l_6_52) rfl rfl (Nat.le_of_ble_eq_true rfl) dX10_put_40 (fun H locs hP hD hS => ?_)
    have hPD : kPD dC dI A [(jM, .inr (10, [v0, .ref m1, v2, v3, v4, v5, .int (nI (k + 1)), v7, v8, v9, v10, v11, v12, v13, v14, v15, v16, v17, v18, v19, v20, v21, v22, v23, v24, v25, v26, v27, v28, v29, v30, v31, v32, v33, v34, v35, v36, v37, v38, v39, v40, v41, v42, v43, v44, v45, v46, v47, v48, v49, v50, v51])), (m1, .inl (mc1, 120, .inl f_9))] H := ⟨hP, hD⟩
    obtain ⟨hP, hD⟩ := hPD
    refine lv_iinc (v := 16) hx hb dX10_put_43 hl (k := 0) rfl (by decide) kc_l_2_3 (kTo [(2, .int 16), (0, .ref jM), (1, .int p0)]) (fun ls hl => ?_)
    refine lv_goto (tgt := 3) hx hb dX10_put_46 kc_t_46_m43 ?_
    refine lv_iload_n hx hb dX10_put_3 rfl (lv_at hl 0 rfl) ?_
    refine lv_if_lt (tgt := 49) hx hb dX10_put_4 kc_t_4_45 (fun c_11 => absurd c_11 (by decide)) (fun c_11 => ?_)
    refine lv_iload_n hx hb dX10_put_7 rfl (lv_at hl 2 rfl) ?_
    refine lv_iload_n hx hb dX10_put_8 rfl (lv_at hl 0 rfl) ?_
    refine lv_ishr hx hb dX10_put_9 ?_
    refine lv_topi (fun x_12 ex_12 => ?_)
    refine lv_sipush (v := 255) hx hb dX10_put_10 kc_s_255 ?_
    refine lv_iand hx hb dX10_put_13 ?_
    refine lv_topi (fun x_13 ex_13 => ?_)
    have hy_14 : kS p0 16 = x_13 := by rw [ex_13, ex_12]; rfl
    refine lv_if_ne (tgt := 20) hx hb dX10_put_14 kc_t_14_6 (fun c_15 => ?_) (fun c_15 => ?_)
    · refine lv_aload_n hx hb dX10_put_20 rfl (lv_at hl 1 rfl) ?_
      refine va_get (D := (dC, dI)) (ci := 10) (v := .ref m1) (C := RX10) (T := TX10) (N := 52) hx hb hts (fun _ h => List.mem_cons_of_mem _ (List.mem_append_right _ h)) hown hK hP 0 rfl rfl 1 kc_l_1_52 (hts (.fieldLink RX10 9 "NotEndedModel" "tape" "[B") (List.mem_cons_of_mem _ (List.mem_append_left _ (List.mem_of_getElem? (i := 0) rfl)))) (fun _ h9 => h9) rfl dX10_put_21 ?_
      refine lv_aload_n hx hb dX10_put_24 rfl (lv_at hl 1 rfl) ?_
      refine va_get (D := (dC, dI)) (ci := 10) (v := .int (nI (k + 1))) (C := RX10) (T := TX10) (N := 52) hx hb hts (fun _ h => List.mem_cons_of_mem _ (List.mem_append_right _ h)) hown hK hP 0 rfl rfl 6 kc_l_6_52 (hts (.fieldLink RX10 131 "NotEndedModel" "length" "I") (List.mem_cons_of_mem _ (List.mem_append_left _ (List.mem_of_getElem? (i := 1) rfl)))) (fun _ h9 => h9) rfl dX10_put_25 ?_
      refine lv_iload_n hx hb dX10_put_28 rfl (lv_at hl 2 rfl) ?_
      refine lv_iload_n hx hb dX10_put_29 rfl (lv_at hl 0 rfl) ?_
      refine lv_ishr hx hb dX10_put_30 ?_
      refine lv_topi (fun x_16 ex_16 => ?_)
      obtain ⟨x_17, ex_17⟩ : ∃ z : Int32, z = (Int32.toInt8 x_16).toInt32 := ⟨_, rfl⟩
      refine lv_i2b (v := x_17) hx hb dX10_put_31 ex_17.symm ?_
      have hc_18 : kC1 p0 16 = 1 := by simp [kC1, hy_14, c_15]
      refine va_bast hx hb hK hP hD hS 1 0 rfl rfl (vp_in_nI (n := k + 1) (N := 120) (by omega) (by decide)) dX10_put_32 (fun H locs hP hD hS => ?_)
      obtain ⟨f_19, ef_19⟩ : ∃ gg9 : Nat → Int32, gg9 = upd f_9 (Int32.toNatClampNeg (nI (k + 1))) (vp_nar .byte x_17) := ⟨_, rfl⟩
      have hPD : kPD dC dI A [(jM, .inr (10, [v0, .ref m1, v2, v3, v4, v5, .int (nI (k + 1)), v7, v8, v9, v10, v11, v12, v13, v14, v15, v16, v17, v18, v19, v20, v21, v22, v23, v24, v25, v26, v27, v28, v29, v30, v31, v32, v33, v34, v35, v36, v37, v38, v39, v40, v41, v42, v43, v44, v45, v46, v47, v48, v49, v50, v51])), (m1, .inl (mc1, 120, .inl f_19))] H := by rw [ef_19]; exact ⟨hP, hD⟩
      obtain ⟨hP, hD⟩ := hPD
      refine lv_aload_n hx hb dX10_put_33 rfl (lv_at hl 1 rfl) ?_
      refine lv_dup hx hb dX10_put_34 rfl ?_
      refine va_get (D := (dC, dI)) (ci := 10) (v := .int (nI (k + 1))) (C := RX10) (T := TX10) (N := 52) hx hb hts (fun _ h => List.mem_cons_of_mem _ (List.mem_append_right _ h)) hown hK hP 0 rfl rfl 6 kc_l_6_52 (hts (.fieldLink RX10 131 "NotEndedModel" "length" "I") (List.mem_cons_of_mem _ (List.mem_append_left _ (List.mem_of_getElem? (i := 1) rfl)))) (fun _ h9 => h9) rfl dX10_put_35 ?_
      refine lv_iconst (v := 1) hx hb dX10_put_38 kc_i_1 ?_
      refine lv_iadd hx hb dX10_put_39 ?_
      refine lv_topi (fun y_20 ey_20 => ?_)
      obtain rfl : y_20 = nI (k + 1 + 1) := ey_20.trans (nI_add (k + 1) (1))
      refine va_put (D := (dC, dI)) (ci := 10) (v := .int (nI (k + 1 + 1))) (ty := tyX10 6) (C := RX10) (T := TX10) (N := 52) hx hb hts (fun _ h => List.mem_cons_of_mem _ (List.mem_append_right _ h)) tyX10 tyX10_ok nmX10 hown hK hP hD hS 0 rfl rfl 6 kc_l_6_52 (hts (.fieldLink RX10 131 "NotEndedModel" "length" "I") (List.mem_cons_of_mem _ (List.mem_append_left _ (List.mem_of_getElem? (i := 1) rfl)))) (fun _ h9 => h9) rfl (tyX10_ok 6 kc_l_6_52) rfl rfl (Nat.le_of_ble_eq_true rfl) dX10_put_40 (fun H locs hP hD hS => ?_)
      have hPD : kPD dC dI A [(jM, .inr (10, [v0, .ref m1, v2, v3, v4, v5, .int (nI (k + 1 + 1)), v7, v8, v9, v10, v11, v12, v13, v14, v15, v16, v17, v18, v19, v20, v21, v22, v23, v24, v25, v26, v27, v28, v29, v30, v31, v32, v33, v34, v35, v36, v37, v38, v39, v40, v41, v42, v43, v44, v45, v46, v47, v48, v49, v50, v51])), (m1, .inl (mc1, 120, .inl f_19))] H := ⟨hP, hD⟩
      obtain ⟨hP, hD⟩ := hPD
      refine lv_iinc (v := 8) hx hb dX10_put_43 hl (k := 0) rfl (by decide) kc_l_2_3 (kTo [(2, .int 8), (0, .ref jM), (1, .int p0)]) (fun ls hl => ?_)
      refine lv_goto (tgt := 3) hx hb dX10_put_46 kc_t_46_m43 ?_
      refine lv_iload_n hx hb dX10_put_3 rfl (lv_at hl 0 rfl) ?_
      refine lv_if_lt (tgt := 49) hx hb dX10_put_4 kc_t_4_45 (fun c_21 => absurd c_21 (by decide)) (fun c_21 => ?_)
      refine lv_iload_n hx hb dX10_put_7 rfl (lv_at hl 2 rfl) ?_
      refine lv_iload_n hx hb dX10_put_8 rfl (lv_at hl 0 rfl) ?_
      refine lv_ishr hx hb dX10_put_9 ?_
      refine lv_topi (fun x_22 ex_22 => ?_)
      refine lv_sipush (v := 255) hx hb dX10_put_10 kc_s_255 ?_
      refine lv_iand hx hb dX10_put_13 ?_
      refine lv_topi (fun x_23 ex_23 => ?_)
      have hy_24 : kS p0 8 = x_23 := by rw [ex_23, ex_22]; rfl
      refine lv_if_ne (tgt := 20) hx hb dX10_put_14 kc_t_14_6 (fun c_25 => ?_) (fun c_25 => ?_)
      · refine lv_aload_n hx hb dX10_put_20 rfl (lv_at hl 1 rfl) ?_
        refine va_get (D := (dC, dI)) (ci := 10) (v := .ref m1) (C := RX10) (T := TX10) (N := 52) hx hb hts (fun _ h => List.mem_cons_of_mem _ (List.mem_append_right _ h)) hown hK hP 0 rfl rfl 1 kc_l_1_52 (hts (.fieldLink RX10 9 "NotEndedModel" "tape" "[B") (List.mem_cons_of_mem _ (List.mem_append_left _ (List.mem_of_getElem? (i := 0) rfl)))) (fun _ h9 => h9) rfl dX10_put_21 ?_
        refine lv_aload_n hx hb dX10_put_24 rfl (lv_at hl 1 rfl) ?_
        refine va_get (D := (dC, dI)) (ci := 10) (v := .int (nI (k + 1 + 1))) (C := RX10) (T := TX10) (N := 52) hx hb hts (fun _ h => List.mem_cons_of_mem _ (List.mem_append_right _ h)) hown hK hP 0 rfl rfl 6 kc_l_6_52 (hts (.fieldLink RX10 131 "NotEndedModel" "length" "I") (List.mem_cons_of_mem _ (List.mem_append_left _ (List.mem_of_getElem? (i := 1) rfl)))) (fun _ h9 => h9) rfl dX10_put_25 ?_
        refine lv_iload_n hx hb dX10_put_28 rfl (lv_at hl 2 rfl) ?_
        refine lv_iload_n hx hb dX10_put_29 rfl (lv_at hl 0 rfl) ?_
        refine lv_ishr hx hb dX10_put_30 ?_
        refine lv_topi (fun x_26 ex_26 => ?_)
        obtain ⟨x_27, ex_27⟩ : ∃ z : Int32, z = (Int32.toInt8 x_26).toInt32 := ⟨_, rfl⟩
        refine lv_i2b (v := x_27) hx hb dX10_put_31 ex_27.symm ?_
        have hc_28 : kC1 p0 8 = 1 := by simp [kC1, hy_24, c_25]
        refine va_bast hx hb hK hP hD hS 1 0 rfl rfl (vp_in_nI (n := k + 1 + 1) (N := 120) (by omega) (by decide)) dX10_put_32 (fun H locs hP hD hS => ?_)
        obtain ⟨f_29, ef_29⟩ : ∃ gg9 : Nat → Int32, gg9 = upd f_19 (Int32.toNatClampNeg (nI (k + 1 + 1))) (vp_nar .byte x_27) := ⟨_, rfl⟩
        have hPD : kPD dC dI A [(jM, .inr (10, [v0, .ref m1, v2, v3, v4, v5, .int (nI (k + 1 + 1)), v7, v8, v9, v10, v11, v12, v13, v14, v15, v16, v17, v18, v19, v20, v21, v22, v23, v24, v25, v26, v27, v28, v29, v30, v31, v32, v33, v34, v35, v36, v37, v38, v39, v40, v41, v42, v43, v44, v45, v46, v47, v48, v49, v50, v51])), (m1, .inl (mc1, 120, .inl f_29))] H := by rw [ef_29]; exact ⟨hP, hD⟩
        obtain ⟨hP, hD⟩ := hPD
        refine lv_aload_n hx hb dX10_put_33 rfl (lv_at hl 1 rfl) ?_
        refine lv_dup hx hb dX10_put_34 rfl ?_
        refine va_get (D := (dC, dI)) (ci := 10) (v := .int (nI (k + 1 + 1))) (C := RX10) (T := TX10) (N := 52) hx hb hts (fun _ h => List.mem_cons_of_mem _ (List.mem_append_right _ h)) hown hK hP 0 rfl rfl 6 kc_l_6_52 (hts (.fieldLink RX10 131 "NotEndedModel" "length" "I") (List.mem_cons_of_mem _ (List.mem_append_left _ (List.mem_of_getElem? (i := 1) rfl)))) (fun _ h9 => h9) rfl dX10_put_35 ?_
        refine lv_iconst (v := 1) hx hb dX10_put_38 kc_i_1 ?_
        refine lv_iadd hx hb dX10_put_39 ?_
        refine lv_topi (fun y_30 ey_30 => ?_)
        obtain rfl : y_30 = nI (k + 1 + 1 + 1) := ey_30.trans (nI_add (k + 1 + 1) (1))
        refine va_put (D := (dC, dI)) (ci := 10) (v := .int (nI (k + 1 + 1 + 1))) (ty := tyX10 6) (C := RX10) (T := TX10) (N := 52) hx hb hts (fun _ h => List.mem_cons_of_mem _ (List.mem_append_right _ h)) tyX10 tyX10_ok nmX10 hown hK hP hD hS 0 rfl rfl 6 kc_l_6_52 (hts (.fieldLink RX10 131 "NotEndedModel" "length" "I") (List.mem_cons_of_mem _ (List.mem_append_left _ (List.mem_of_getElem? (i := 1) rfl)))) (fun _ h9 => h9) rfl (tyX10_ok 6 kc_l_6_52) rfl rfl (Nat.le_of_ble_eq_true rfl) dX10_put_40 (fun H locs hP hD hS => ?_)
        have hPD : kPD dC dI A [(jM, .inr (10, [v0, .ref m1, v2, v3, v4, v5, .int (nI (k + 1 + 1 + 1)), v7, v8, v9, v10, v11, v12, v13, v14, v15, v16, v17, v18, v19, v20, v21, v22, v23, v24, v25, v26, v27, v28, v29, v30, v31, v32, v33, v34, v35, v36, v37, v38, v39, v40, v41, v42, v43, v44, v45, v46, v47, v48, v49, v50, v51])), (m1, .inl (mc1, 120, .inl f_29))] H := ⟨hP, hD⟩
        obtain ⟨hP, hD⟩ := hPD
        refine lv_iinc (v := 0) hx hb dX10_put_43 hl (k := 0) rfl (by decide) kc_l_2_3 (kTo [(2, .int 0), (0, .ref jM), (1, .int p0)]) (fun ls hl => ?_)
        refine lv_goto (tgt := 3) hx hb dX10_put_46 kc_t_46_m43 ?_
        refine lv_iload_n hx hb dX10_put_3 rfl (lv_at hl 0 rfl) ?_
        refine lv_if_lt (tgt := 49) hx hb dX10_put_4 kc_t_4_45 (fun c_31 => absurd c_31 (by decide)) (fun c_31 => ?_)
        refine lv_iload_n hx hb dX10_put_7 rfl (lv_at hl 2 rfl) ?_
        refine lv_iload_n hx hb dX10_put_8 rfl (lv_at hl 0 rfl) ?_
        refine lv_ishr hx hb dX10_put_9 ?_
        refine lv_topi (fun x_32 ex_32 => ?_)
        refine lv_sipush (v := 255) hx hb dX10_put_10 kc_s_255 ?_
        refine lv_iand hx hb dX10_put_13 ?_
        refine lv_topi (fun x_33 ex_33 => ?_)
        have hy_34 : kS p0 0 = x_33 := by rw [ex_33, ex_32]; rfl
        refine lv_if_ne (tgt := 20) hx hb dX10_put_14 kc_t_14_6 (fun c_35 => ?_) (fun c_35 => ?_)
        · refine lv_aload_n hx hb dX10_put_20 rfl (lv_at hl 1 rfl) ?_
          refine va_get (D := (dC, dI)) (ci := 10) (v := .ref m1) (C := RX10) (T := TX10) (N := 52) hx hb hts (fun _ h => List.mem_cons_of_mem _ (List.mem_append_right _ h)) hown hK hP 0 rfl rfl 1 kc_l_1_52 (hts (.fieldLink RX10 9 "NotEndedModel" "tape" "[B") (List.mem_cons_of_mem _ (List.mem_append_left _ (List.mem_of_getElem? (i := 0) rfl)))) (fun _ h9 => h9) rfl dX10_put_21 ?_
          refine lv_aload_n hx hb dX10_put_24 rfl (lv_at hl 1 rfl) ?_
          refine va_get (D := (dC, dI)) (ci := 10) (v := .int (nI (k + 1 + 1 + 1))) (C := RX10) (T := TX10) (N := 52) hx hb hts (fun _ h => List.mem_cons_of_mem _ (List.mem_append_right _ h)) hown hK hP 0 rfl rfl 6 kc_l_6_52 (hts (.fieldLink RX10 131 "NotEndedModel" "length" "I") (List.mem_cons_of_mem _ (List.mem_append_left _ (List.mem_of_getElem? (i := 1) rfl)))) (fun _ h9 => h9) rfl dX10_put_25 ?_
          refine lv_iload_n hx hb dX10_put_28 rfl (lv_at hl 2 rfl) ?_
          refine lv_iload_n hx hb dX10_put_29 rfl (lv_at hl 0 rfl) ?_
          refine lv_ishr hx hb dX10_put_30 ?_
          refine lv_topi (fun x_36 ex_36 => ?_)
          obtain ⟨x_37, ex_37⟩ : ∃ z : Int32, z = (Int32.toInt8 x_36).toInt32 := ⟨_, rfl⟩
          refine lv_i2b (v := x_37) hx hb dX10_put_31 ex_37.symm ?_
          have hc_38 : kC1 p0 0 = 1 := by simp [kC1, hy_34, c_35]
          refine va_bast hx hb hK hP hD hS 1 0 rfl rfl (vp_in_nI (n := k + 1 + 1 + 1) (N := 120) (by omega) (by decide)) dX10_put_32 (fun H locs hP hD hS => ?_)
          obtain ⟨f_39, ef_39⟩ : ∃ gg9 : Nat → Int32, gg9 = upd f_29 (Int32.toNatClampNeg (nI (k + 1 + 1 + 1))) (vp_nar .byte x_37) := ⟨_, rfl⟩
          have hPD : kPD dC dI A [(jM, .inr (10, [v0, .ref m1, v2, v3, v4, v5, .int (nI (k + 1 + 1 + 1)), v7, v8, v9, v10, v11, v12, v13, v14, v15, v16, v17, v18, v19, v20, v21, v22, v23, v24, v25, v26, v27, v28, v29, v30, v31, v32, v33, v34, v35, v36, v37, v38, v39, v40, v41, v42, v43, v44, v45, v46, v47, v48, v49, v50, v51])), (m1, .inl (mc1, 120, .inl f_39))] H := by rw [ef_39]; exact ⟨hP, hD⟩
          obtain ⟨hP, hD⟩ := hPD
          refine lv_aload_n hx hb dX10_put_33 rfl (lv_at hl 1 rfl) ?_
          refine lv_dup hx hb dX10_put_34 rfl ?_
          refine va_get (D := (dC, dI)) (ci := 10) (v := .int (nI (k + 1 + 1 + 1))) (C := RX10) (T := TX10) (N := 52) hx hb hts (fun _ h => List.mem_cons_of_mem _ (List.mem_append_right _ h)) hown hK hP 0 rfl rfl 6 kc_l_6_52 (hts (.fieldLink RX10 131 "NotEndedModel" "length" "I") (List.mem_cons_of_mem _ (List.mem_append_left _ (List.mem_of_getElem? (i := 1) rfl)))) (fun _ h9 => h9) rfl dX10_put_35 ?_
          refine lv_iconst (v := 1) hx hb dX10_put_38 kc_i_1 ?_
          refine lv_iadd hx hb dX10_put_39 ?_
          refine lv_topi (fun y_40 ey_40 => ?_)
          obtain rfl : y_40 = nI (k + 1 + 1 + 1 + 1) := ey_40.trans (nI_add (k + 1 + 1 + 1) (1))
          refine va_put (D := (dC, dI)) (ci := 10) (v := .int (nI (k + 1 + 1 + 1 + 1))) (ty := tyX10 6) (C := RX10) (T := TX10) (N := 52) hx hb hts (fun _ h => List.mem_cons_of_mem _ (List.mem_append_right _ h)) tyX10 tyX10_ok nmX10 hown hK hP hD hS 0 rfl rfl 6 kc_l_6_52 (hts (.fieldLink RX10 131 "NotEndedModel" "length" "I") (List.mem_cons_of_mem _ (List.mem_append_left _ (List.mem_of_getElem? (i := 1) rfl)))) (fun _ h9 => h9) rfl (tyX10_ok 6 kc_l_6_52) rfl rfl (Nat.le_of_ble_eq_true rfl) dX10_put_40 (fun H locs hP hD hS => ?_)
          have hPD : kPD dC dI A [(jM, .inr (10, [v0, .ref m1, v2, v3, v4, v5, .int (nI (k + 1 + 1 + 1 + 1)), v7, v8, v9, v10, v11, v12, v13, v14, v15, v16, v17, v18, v19, v20, v21, v22, v23, v24, v25, v26, v27, v28, v29, v30, v31, v32, v33, v34, v35, v36, v37, v38, v39, v40, v41, v42, v43, v44, v45, v46, v47, v48, v49, v50, v51])), (m1, .inl (mc1, 120, .inl f_39))] H := ⟨hP, hD⟩
          obtain ⟨hP, hD⟩ := hPD
          refine lv_iinc (v := (-8)) hx hb dX10_put_43 hl (k := 0) rfl (by decide) kc_l_2_3 (kTo [(2, .int (-8)), (0, .ref jM), (1, .int p0)]) (fun ls hl => ?_)
          refine lv_goto (tgt := 3) hx hb dX10_put_46 kc_t_46_m43 ?_
          refine lv_iload_n hx hb dX10_put_3 rfl (lv_at hl 0 rfl) ?_
          refine lv_if_lt (tgt := 49) hx hb dX10_put_4 kc_t_4_45 (fun c_41 => ?_) (fun c_41 => absurd (by decide) c_41)
          have hk9 : kCnt p0 = 4 := by simp [kCnt, kC1, hy_4, hy_14, hy_24, hy_34, c_5, c_15, c_25, c_35]
          have hP9 : va_P (dC, dI) vwCl [(jM, .inr (10, [v0, .ref m1, v2, v3, v4, v5, .int (nI (k + kCnt p0)), v7, v8, v9, v10, v11, v12, v13, v14, v15, v16, v17, v18, v19, v20, v21, v22, v23, v24, v25, v26, v27, v28, v29, v30, v31, v32, v33, v34, v35, v36, v37, v38, v39, v40, v41, v42, v43, v44, v45, v46, v47, v48, v49, v50, v51])), (m1, .inl (mc1, 120, .inl f_39))] H := by rw [hk9]; exact hP.sub [0, 1] rfl
          have hD9 : va_D A [(jM, .inr (10, [v0, .ref m1, v2, v3, v4, v5, .int (nI (k + kCnt p0)), v7, v8, v9, v10, v11, v12, v13, v14, v15, v16, v17, v18, v19, v20, v21, v22, v23, v24, v25, v26, v27, v28, v29, v30, v31, v32, v33, v34, v35, v36, v37, v38, v39, v40, v41, v42, v43, v44, v45, v46, v47, v48, v49, v50, v51])), (m1, .inl (mc1, 120, .inl f_39))] := by rw [hk9]; exact hD.sub [0, 1] (by decide) rfl
          have hK9 := hK
          rw [hQ]
          exact W.vret hx hb hr (fun t ht hW => ⟨⟨(f_39, (kUpN (kUpN (kUpN (kUpN bt k (kSn p0 24)) (k + 1) (kSn p0 16)) (k + 1 + 1) (kSn p0 8)) (k + 1 + 1 + 1) (kSn p0 0))), rfl, ⟨by rw [hk9]; unfold kPut; rw [kP1_n (k := 24) (fun z => c_5 (hy_4.symm.trans z)), kP1_n (k := 16) (fun z => c_15 (hy_14.symm.trans z)), kP1_n (k := 8) (fun z => c_25 (hy_24.symm.trans z)), kP1_n (k := 0) (fun z => c_35 (hy_34.symm.trans z))], (kUpM (h := 0) (by omega) ef_39 ex_37 ex_36 (kUpM (h := 8) (by omega) ef_29 ex_27 ex_26 (kUpM (h := 16) (by omega) ef_19 ex_17 ex_16 (kUpM (h := 24) (by omega) ef_9 ex_7 ex_6 hbm)))), (kUp8 (kUp8 (kUp8 (kUp8 hb8))))⟩,  by rw [ht]; exact hP9, va_K.moved hW.alike hK9, hD9⟩, hS.F ht⟩) hS.2.2 dX10_put_49
        · refine lv_goto (tgt := 43) hx hb dX10_put_17 kc_t_17_26 ?_
          refine lv_iinc (v := (-8)) hx hb dX10_put_43 hl (k := 0) rfl (by decide) kc_l_2_3 (kTo [(2, .int (-8)), (0, .ref jM), (1, .int p0)]) (fun ls hl => ?_)
          refine lv_goto (tgt := 3) hx hb dX10_put_46 kc_t_46_m43 ?_
          refine lv_iload_n hx hb dX10_put_3 rfl (lv_at hl 0 rfl) ?_
          refine lv_if_lt (tgt := 49) hx hb dX10_put_4 kc_t_4_45 (fun c_42 => ?_) (fun c_42 => absurd (by decide) c_42)
          have hk9 : kCnt p0 = 3 := by simp [kCnt, kC1, hy_4, hy_14, hy_24, hy_34, c_5, c_15, c_25, c_35]
          have hP9 : va_P (dC, dI) vwCl [(jM, .inr (10, [v0, .ref m1, v2, v3, v4, v5, .int (nI (k + kCnt p0)), v7, v8, v9, v10, v11, v12, v13, v14, v15, v16, v17, v18, v19, v20, v21, v22, v23, v24, v25, v26, v27, v28, v29, v30, v31, v32, v33, v34, v35, v36, v37, v38, v39, v40, v41, v42, v43, v44, v45, v46, v47, v48, v49, v50, v51])), (m1, .inl (mc1, 120, .inl f_29))] H := by rw [hk9]; exact hP.sub [0, 1] rfl
          have hD9 : va_D A [(jM, .inr (10, [v0, .ref m1, v2, v3, v4, v5, .int (nI (k + kCnt p0)), v7, v8, v9, v10, v11, v12, v13, v14, v15, v16, v17, v18, v19, v20, v21, v22, v23, v24, v25, v26, v27, v28, v29, v30, v31, v32, v33, v34, v35, v36, v37, v38, v39, v40, v41, v42, v43, v44, v45, v46, v47, v48, v49, v50, v51])), (m1, .inl (mc1, 120, .inl f_29))] := by rw [hk9]; exact hD.sub [0, 1] (by decide) rfl
          have hK9 := hK
          rw [hQ]
          exact W.vret hx hb hr (fun t ht hW => ⟨⟨(f_29, (kUpN (kUpN (kUpN bt k (kSn p0 24)) (k + 1) (kSn p0 16)) (k + 1 + 1) (kSn p0 8))), rfl, ⟨by rw [hk9]; unfold kPut; rw [kP1_n (k := 24) (fun z => c_5 (hy_4.symm.trans z)), kP1_n (k := 16) (fun z => c_15 (hy_14.symm.trans z)), kP1_n (k := 8) (fun z => c_25 (hy_24.symm.trans z)), kP1_z (k := 0) (hy_34.trans c_35)], (kUpM (h := 8) (by omega) ef_29 ex_27 ex_26 (kUpM (h := 16) (by omega) ef_19 ex_17 ex_16 (kUpM (h := 24) (by omega) ef_9 ex_7 ex_6 hbm))), (kUp8 (kUp8 (kUp8 hb8)))⟩,  by rw [ht]; exact hP9, va_K.moved hW.alike hK9, hD9⟩, hS.F ht⟩) hS.2.2 dX10_put_49
      · refine lv_goto (tgt := 43) hx hb dX10_put_17 kc_t_17_26 ?_
        refine lv_iinc (v := 0) hx hb dX10_put_43 hl (k := 0) rfl (by decide) kc_l_2_3 (kTo [(2, .int 0), (0, .ref jM), (1, .int p0)]) (fun ls hl => ?_)
        refine lv_goto (tgt := 3) hx hb dX10_put_46 kc_t_46_m43 ?_
        refine lv_iload_n hx hb dX10_put_3 rfl (lv_at hl 0 rfl) ?_
        refine lv_if_lt (tgt := 49) hx hb dX10_put_4 kc_t_4_45 (fun c_43 => absurd c_43 (by decide)) (fun c_43 => ?_)
        refine lv_iload_n hx hb dX10_put_7 rfl (lv_at hl 2 rfl) ?_
        refine lv_iload_n hx hb dX10_put_8 rfl (lv_at hl 0 rfl) ?_
        refine lv_ishr hx hb dX10_put_9 ?_
        refine lv_topi (fun x_44 ex_44 => ?_)
        refine lv_sipush (v := 255) hx hb dX10_put_10 kc_s_255 ?_
        refine lv_iand hx hb dX10_put_13 ?_
        refine lv_topi (fun x_45 ex_45 => ?_)
        have hy_46 : kS p0 0 = x_45 := by rw [ex_45, ex_44]; rfl
        refine lv_if_ne (tgt := 20) hx hb dX10_put_14 kc_t_14_6 (fun c_47 => ?_) (fun c_47 => ?_)
        · refine lv_aload_n hx hb dX10_put_20 rfl (lv_at hl 1 rfl) ?_
          refine va_get (D := (dC, dI)) (ci := 10) (v := .ref m1) (C := RX10) (T := TX10) (N := 52) hx hb hts (fun _ h => List.mem_cons_of_mem _ (List.mem_append_right _ h)) hown hK hP 0 rfl rfl 1 kc_l_1_52 (hts (.fieldLink RX10 9 "NotEndedModel" "tape" "[B") (List.mem_cons_of_mem _ (List.mem_append_left _ (List.mem_of_getElem? (i := 0) rfl)))) (fun _ h9 => h9) rfl dX10_put_21 ?_
          refine lv_aload_n hx hb dX10_put_24 rfl (lv_at hl 1 rfl) ?_
          refine va_get (D := (dC, dI)) (ci := 10) (v := .int (nI (k + 1 + 1))) (C := RX10) (T := TX10) (N := 52) hx hb hts (fun _ h => List.mem_cons_of_mem _ (List.mem_append_right _ h)) hown hK hP 0 rfl rfl 6 kc_l_6_52 (hts (.fieldLink RX10 131 "NotEndedModel" "length" "I") (List.mem_cons_of_mem _ (List.mem_append_left _ (List.mem_of_getElem? (i := 1) rfl)))) (fun _ h9 => h9) rfl dX10_put_25 ?_
          refine lv_iload_n hx hb dX10_put_28 rfl (lv_at hl 2 rfl) ?_
          refine lv_iload_n hx hb dX10_put_29 rfl (lv_at hl 0 rfl) ?_
          refine lv_ishr hx hb dX10_put_30 ?_
          refine lv_topi (fun x_48 ex_48 => ?_)
          obtain ⟨x_49, ex_49⟩ : ∃ z : Int32, z = (Int32.toInt8 x_48).toInt32 := ⟨_, rfl⟩
          refine lv_i2b (v := x_49) hx hb dX10_put_31 ex_49.symm ?_
          have hc_50 : kC1 p0 0 = 1 := by simp [kC1, hy_46, c_47]
          refine va_bast hx hb hK hP hD hS 1 0 rfl rfl (vp_in_nI (n := k + 1 + 1) (N := 120) (by omega) (by decide)) dX10_put_32 (fun H locs hP hD hS => ?_)
          obtain ⟨f_51, ef_51⟩ : ∃ gg9 : Nat → Int32, gg9 = upd f_19 (Int32.toNatClampNeg (nI (k + 1 + 1))) (vp_nar .byte x_49) := ⟨_, rfl⟩
          have hPD : kPD dC dI A [(jM, .inr (10, [v0, .ref m1, v2, v3, v4, v5, .int (nI (k + 1 + 1)), v7, v8, v9, v10, v11, v12, v13, v14, v15, v16, v17, v18, v19, v20, v21, v22, v23, v24, v25, v26, v27, v28, v29, v30, v31, v32, v33, v34, v35, v36, v37, v38, v39, v40, v41, v42, v43, v44, v45, v46, v47, v48, v49, v50, v51])), (m1, .inl (mc1, 120, .inl f_51))] H := by rw [ef_51]; exact ⟨hP, hD⟩
          obtain ⟨hP, hD⟩ := hPD
          refine lv_aload_n hx hb dX10_put_33 rfl (lv_at hl 1 rfl) ?_
          refine lv_dup hx hb dX10_put_34 rfl ?_
          refine va_get (D := (dC, dI)) (ci := 10) (v := .int (nI (k + 1 + 1))) (C := RX10) (T := TX10) (N := 52) hx hb hts (fun _ h => List.mem_cons_of_mem _ (List.mem_append_right _ h)) hown hK hP 0 rfl rfl 6 kc_l_6_52 (hts (.fieldLink RX10 131 "NotEndedModel" "length" "I") (List.mem_cons_of_mem _ (List.mem_append_left _ (List.mem_of_getElem? (i := 1) rfl)))) (fun _ h9 => h9) rfl dX10_put_35 ?_
          refine lv_iconst (v := 1) hx hb dX10_put_38 kc_i_1 ?_
          refine lv_iadd hx hb dX10_put_39 ?_
          refine lv_topi (fun y_52 ey_52 => ?_)
          obtain rfl : y_52 = nI (k + 1 + 1 + 1) := ey_52.trans (nI_add (k + 1 + 1) (1))
          refine va_put (D := (dC, dI)) (ci := 10) (v := .int (nI (k + 1 + 1 + 1))) (ty := tyX10 6) (C := RX10) (T := TX10) (N := 52) hx hb hts (fun _ h => List.mem_cons_of_mem _ (List.mem_append_right _ h)) tyX10 tyX10_ok nmX10 hown hK hP hD hS 0 rfl rfl 6 kc_l_6_52 (hts (.fieldLink RX10 131 "NotEndedModel" "length" "I") (List.mem_cons_of_mem _ (List.mem_append_left _ (List.mem_of_getElem? (i := 1) rfl)))) (fun _ h9 => h9) rfl (tyX10_ok 6 kc_l_6_52) rfl rfl (Nat.le_of_ble_eq_true rfl) dX10_put_40 (fun H locs hP hD hS => ?_)
          have hPD : kPD dC dI A [(jM, .inr (10, [v0, .ref m1, v2, v3, v4, v5, .int (nI (k + 1 + 1 + 1)), v7, v8, v9, v10, v11, v12, v13, v14, v15, v16, v17, v18, v19, v20, v21, v22, v23, v24, v25, v26, v27, v28, v29, v30, v31, v32, v33, v34, v35, v36, v37, v38, v39, v40, v41, v42, v43, v44, v45, v46, v47, v48, v49, v50, v51])), (m1, .inl (mc1, 120, .inl f_51))] H := ⟨hP, hD⟩
          obtain ⟨hP, hD⟩ := hPD
          refine lv_iinc (v := (-8)) hx hb dX10_put_43 hl (k := 0) rfl (by decide) kc_l_2_3 (kTo [(2, .int (-8)), (0, .ref jM), (1, .int p0)]) (fun ls hl => ?_)
          refine lv_goto (tgt := 3) hx hb dX10_put_46 kc_t_46_m43 ?_
          refine lv_iload_n hx hb dX10_put_3 rfl (lv_at hl 0 rfl) ?_
          refine lv_if_lt (tgt := 49) hx hb dX10_put_4 kc_t_4_45 (fun c_53 => ?_) (fun c_53 => absurd (by decide) c_53)
          have hk9 : kCnt p0 = 3 := by simp [kCnt, kC1, hy_4, hy_14, hy_24, hy_46, c_5, c_15, c_25, c_47]
          have hP9 : va_P (dC, dI) vwCl [(jM, .inr (10, [v0, .ref m1, v2, v3, v4, v5, .int (nI (k + kCnt p0)), v7, v8, v9, v10, v11, v12, v13, v14, v15, v16, v17, v18, v19, v20, v21, v22, v23, v24, v25, v26, v27, v28, v29, v30, v31, v32, v33, v34, v35, v36, v37, v38, v39, v40, v41, v42, v43, v44, v45, v46, v47, v48, v49, v50, v51])), (m1, .inl (mc1, 120, .inl f_51))] H := by rw [hk9]; exact hP.sub [0, 1] rfl
          have hD9 : va_D A [(jM, .inr (10, [v0, .ref m1, v2, v3, v4, v5, .int (nI (k + kCnt p0)), v7, v8, v9, v10, v11, v12, v13, v14, v15, v16, v17, v18, v19, v20, v21, v22, v23, v24, v25, v26, v27, v28, v29, v30, v31, v32, v33, v34, v35, v36, v37, v38, v39, v40, v41, v42, v43, v44, v45, v46, v47, v48, v49, v50, v51])), (m1, .inl (mc1, 120, .inl f_51))] := by rw [hk9]; exact hD.sub [0, 1] (by decide) rfl
          have hK9 := hK
          rw [hQ]
          exact W.vret hx hb hr (fun t ht hW => ⟨⟨(f_51, (kUpN (kUpN (kUpN bt k (kSn p0 24)) (k + 1) (kSn p0 16)) (k + 1 + 1) (kSn p0 0))), rfl, ⟨by rw [hk9]; unfold kPut; rw [kP1_n (k := 24) (fun z => c_5 (hy_4.symm.trans z)), kP1_n (k := 16) (fun z => c_15 (hy_14.symm.trans z)), kP1_z (k := 8) (hy_24.trans c_25), kP1_n (k := 0) (fun z => c_47 (hy_46.symm.trans z))], (kUpM (h := 0) (by omega) ef_51 ex_49 ex_48 (kUpM (h := 16) (by omega) ef_19 ex_17 ex_16 (kUpM (h := 24) (by omega) ef_9 ex_7 ex_6 hbm))), (kUp8 (kUp8 (kUp8 hb8)))⟩,  by rw [ht]; exact hP9, va_K.moved hW.alike hK9, hD9⟩, hS.F ht⟩) hS.2.2 dX10_put_49
        · refine lv_goto (tgt := 43) hx hb dX10_put_17 kc_t_17_26 ?_
          refine lv_iinc (v := (-8)) hx hb dX10_put_43 hl (k := 0) rfl (by decide) kc_l_2_3 (kTo [(2, .int (-8)), (0, .ref jM), (1, .int p0)]) (fun ls hl => ?_)
          refine lv_goto (tgt := 3) hx hb dX10_put_46 kc_t_46_m43 ?_
          refine lv_iload_n hx hb dX10_put_3 rfl (lv_at hl 0 rfl) ?_
          refine lv_if_lt (tgt := 49) hx hb dX10_put_4 kc_t_4_45 (fun c_54 => ?_) (fun c_54 => absurd (by decide) c_54)
          have hk9 : kCnt p0 = 2 := by simp [kCnt, kC1, hy_4, hy_14, hy_24, hy_46, c_5, c_15, c_25, c_47]
          have hP9 : va_P (dC, dI) vwCl [(jM, .inr (10, [v0, .ref m1, v2, v3, v4, v5, .int (nI (k + kCnt p0)), v7, v8, v9, v10, v11, v12, v13, v14, v15, v16, v17, v18, v19, v20, v21, v22, v23, v24, v25, v26, v27, v28, v29, v30, v31, v32, v33, v34, v35, v36, v37, v38, v39, v40, v41, v42, v43, v44, v45, v46, v47, v48, v49, v50, v51])), (m1, .inl (mc1, 120, .inl f_19))] H := by rw [hk9]; exact hP.sub [0, 1] rfl
          have hD9 : va_D A [(jM, .inr (10, [v0, .ref m1, v2, v3, v4, v5, .int (nI (k + kCnt p0)), v7, v8, v9, v10, v11, v12, v13, v14, v15, v16, v17, v18, v19, v20, v21, v22, v23, v24, v25, v26, v27, v28, v29, v30, v31, v32, v33, v34, v35, v36, v37, v38, v39, v40, v41, v42, v43, v44, v45, v46, v47, v48, v49, v50, v51])), (m1, .inl (mc1, 120, .inl f_19))] := by rw [hk9]; exact hD.sub [0, 1] (by decide) rfl
          have hK9 := hK
          rw [hQ]
          exact W.vret hx hb hr (fun t ht hW => ⟨⟨(f_19, (kUpN (kUpN bt k (kSn p0 24)) (k + 1) (kSn p0 16))), rfl, ⟨by rw [hk9]; unfold kPut; rw [kP1_n (k := 24) (fun z => c_5 (hy_4.symm.trans z)), kP1_n (k := 16) (fun z => c_15 (hy_14.symm.trans z)), kP1_z (k := 8) (hy_24.trans c_25), kP1_z (k := 0) (hy_46.trans c_47)], (kUpM (h := 16) (by omega) ef_19 ex_17 ex_16 (kUpM (h := 24) (by omega) ef_9 ex_7 ex_6 hbm)), (kUp8 (kUp8 hb8))⟩,  by rw [ht]; exact hP9, va_K.moved hW.alike hK9, hD9⟩, hS.F ht⟩) hS.2.2 dX10_put_49
    · refine lv_goto (tgt := 43) hx hb dX10_put_17 kc_t_17_26 ?_
      refine lv_iinc (v := 8) hx hb dX10_put_43 hl (k := 0) rfl (by decide) kc_l_2_3 (kTo [(2, .int 8), (0, .ref jM), (1, .int p0)]) (fun ls hl => ?_)
      refine lv_goto (tgt := 3) hx hb dX10_put_46 kc_t_46_m43 ?_
      refine lv_iload_n hx hb dX10_put_3 rfl (lv_at hl 0 rfl) ?_
      refine lv_if_lt (tgt := 49) hx hb dX10_put_4 kc_t_4_45 (fun c_55 => absurd c_55 (by decide)) (fun c_55 => ?_)
      refine lv_iload_n hx hb dX10_put_7 rfl (lv_at hl 2 rfl) ?_
      refine lv_iload_n hx hb dX10_put_8 rfl (lv_at hl 0 rfl) ?_
      refine lv_ishr hx hb dX10_put_9 ?_
      refine lv_topi (fun x_56 ex_56 => ?_)
      refine lv_sipush (v := 255) hx hb dX10_put_10 kc_s_255 ?_
      refine lv_iand hx hb dX10_put_13 ?_
      refine lv_topi (fun x_57 ex_57 => ?_)
      have hy_58 : kS p0 8 = x_57 := by rw [ex_57, ex_56]; rfl
      refine lv_if_ne (tgt := 20) hx hb dX10_put_14 kc_t_14_6 (fun c_59 => ?_) (fun c_59 => ?_)
      · refine lv_aload_n hx hb dX10_put_20 rfl (lv_at hl 1 rfl) ?_
        refine va_get (D := (dC, dI)) (ci := 10) (v := .ref m1) (C := RX10) (T := TX10) (N := 52) hx hb hts (fun _ h => List.mem_cons_of_mem _ (List.mem_append_right _ h)) hown hK hP 0 rfl rfl 1 kc_l_1_52 (hts (.fieldLink RX10 9 "NotEndedModel" "tape" "[B") (List.mem_cons_of_mem _ (List.mem_append_left _ (List.mem_of_getElem? (i := 0) rfl)))) (fun _ h9 => h9) rfl dX10_put_21 ?_
        refine lv_aload_n hx hb dX10_put_24 rfl (lv_at hl 1 rfl) ?_
        refine va_get (D := (dC, dI)) (ci := 10) (v := .int (nI (k + 1))) (C := RX10) (T := TX10) (N := 52) hx hb hts (fun _ h => List.mem_cons_of_mem _ (List.mem_append_right _ h)) hown hK hP 0 rfl rfl 6 kc_l_6_52 (hts (.fieldLink RX10 131 "NotEndedModel" "length" "I") (List.mem_cons_of_mem _ (List.mem_append_left _ (List.mem_of_getElem? (i := 1) rfl)))) (fun _ h9 => h9) rfl dX10_put_25 ?_
        refine lv_iload_n hx hb dX10_put_28 rfl (lv_at hl 2 rfl) ?_
        refine lv_iload_n hx hb dX10_put_29 rfl (lv_at hl 0 rfl) ?_
        refine lv_ishr hx hb dX10_put_30 ?_
        refine lv_topi (fun x_60 ex_60 => ?_)
        obtain ⟨x_61, ex_61⟩ : ∃ z : Int32, z = (Int32.toInt8 x_60).toInt32 := ⟨_, rfl⟩
        refine lv_i2b (v := x_61) hx hb dX10_put_31 ex_61.symm ?_
        have hc_62 : kC1 p0 8 = 1 := by simp [kC1, hy_58, c_59]
        refine va_bast hx hb hK hP hD hS 1 0 rfl rfl (vp_in_nI (n := k + 1) (N := 120) (by omega) (by decide)) dX10_put_32 (fun H locs hP hD hS => ?_)
        obtain ⟨f_63, ef_63⟩ : ∃ gg9 : Nat → Int32, gg9 = upd f_9 (Int32.toNatClampNeg (nI (k + 1))) (vp_nar .byte x_61) := ⟨_, rfl⟩
        have hPD : kPD dC dI A [(jM, .inr (10, [v0, .ref m1, v2, v3, v4, v5, .int (nI (k + 1)), v7, v8, v9, v10, v11, v12, v13, v14, v15, v16, v17, v18, v19, v20, v21, v22, v23, v24, v25, v26, v27, v28, v29, v30, v31, v32, v33, v34, v35, v36, v37, v38, v39, v40, v41, v42, v43, v44, v45, v46, v47, v48, v49, v50, v51])), (m1, .inl (mc1, 120, .inl f_63))] H := by rw [ef_63]; exact ⟨hP, hD⟩
        obtain ⟨hP, hD⟩ := hPD
        refine lv_aload_n hx hb dX10_put_33 rfl (lv_at hl 1 rfl) ?_
        refine lv_dup hx hb dX10_put_34 rfl ?_
        refine va_get (D := (dC, dI)) (ci := 10) (v := .int (nI (k + 1))) (C := RX10) (T := TX10) (N := 52) hx hb hts (fun _ h => List.mem_cons_of_mem _ (List.mem_append_right _ h)) hown hK hP 0 rfl rfl 6 kc_l_6_52 (hts (.fieldLink RX10 131 "NotEndedModel" "length" "I") (List.mem_cons_of_mem _ (List.mem_append_left _ (List.mem_of_getElem? (i := 1) rfl)))) (fun _ h9 => h9) rfl dX10_put_35 ?_
        refine lv_iconst (v := 1) hx hb dX10_put_38 kc_i_1 ?_
        refine lv_iadd hx hb dX10_put_39 ?_
        refine lv_topi (fun y_64 ey_64 => ?_)
        obtain rfl : y_64 = nI (k + 1 + 1) := ey_64.trans (nI_add (k + 1) (1))
        refine va_put (D := (dC, dI)) (ci := 10) (v := .int (nI (k + 1 + 1))) (ty := tyX10 6) (C := RX10) (T := TX10) (N := 52) hx hb hts (fun _ h => List.mem_cons_of_mem _ (List.mem_append_right _ h)) tyX10 tyX10_ok nmX10 hown hK hP hD hS 0 rfl rfl 6 kc_l_6_52 (hts (.fieldLink RX10 131 "NotEndedModel" "length" "I") (List.mem_cons_of_mem _ (List.mem_append_left _ (List.mem_of_getElem? (i := 1) rfl)))) (fun _ h9 => h9) rfl (tyX10_ok 6 kc_l_6_52) rfl rfl (Nat.le_of_ble_eq_true rfl) dX10_put_40 (fun H locs hP hD hS => ?_)
        have hPD : kPD dC dI A [(jM, .inr (10, [v0, .ref m1, v2, v3, v4, v5, .int (nI (k + 1 + 1)), v7, v8, v9, v10, v11, v12, v13, v14, v15, v16, v17, v18, v19, v20, v21, v22, v23, v24, v25, v26, v27, v28, v29, v30, v31, v32, v33, v34, v35, v36, v37, v38, v39, v40, v41, v42, v43, v44, v45, v46, v47, v48, v49, v50, v51])), (m1, .inl (mc1, 120, .inl f_63))] H := ⟨hP, hD⟩
        obtain ⟨hP, hD⟩ := hPD
        refine lv_iinc (v := 0) hx hb dX10_put_43 hl (k := 0) rfl (by decide) kc_l_2_3 (kTo [(2, .int 0), (0, .ref jM), (1, .int p0)]) (fun ls hl => ?_)
        refine lv_goto (tgt := 3) hx hb dX10_put_46 kc_t_46_m43 ?_
        refine lv_iload_n hx hb dX10_put_3 rfl (lv_at hl 0 rfl) ?_
        refine lv_if_lt (tgt := 49) hx hb dX10_put_4 kc_t_4_45 (fun c_65 => absurd c_65 (by decide)) (fun c_65 => ?_)
        refine lv_iload_n hx hb dX10_put_7 rfl (lv_at hl 2 rfl) ?_
        refine lv_iload_n hx hb dX10_put_8 rfl (lv_at hl 0 rfl) ?_
        refine lv_ishr hx hb dX10_put_9 ?_
        refine lv_topi (fun x_66 ex_66 => ?_)
        refine lv_sipush (v := 255) hx hb dX10_put_10 kc_s_255 ?_
        refine lv_iand hx hb dX10_put_13 ?_
        refine lv_topi (fun x_67 ex_67 => ?_)
        have hy_68 : kS p0 0 = x_67 := by rw [ex_67, ex_66]; rfl
        refine lv_if_ne (tgt := 20) hx hb dX10_put_14 kc_t_14_6 (fun c_69 => ?_) (fun c_69 => ?_)
        · refine lv_aload_n hx hb dX10_put_20 rfl (lv_at hl 1 rfl) ?_
          refine va_get (D := (dC, dI)) (ci := 10) (v := .ref m1) (C := RX10) (T := TX10) (N := 52) hx hb hts (fun _ h => List.mem_cons_of_mem _ (List.mem_append_right _ h)) hown hK hP 0 rfl rfl 1 kc_l_1_52 (hts (.fieldLink RX10 9 "NotEndedModel" "tape" "[B") (List.mem_cons_of_mem _ (List.mem_append_left _ (List.mem_of_getElem? (i := 0) rfl)))) (fun _ h9 => h9) rfl dX10_put_21 ?_
          refine lv_aload_n hx hb dX10_put_24 rfl (lv_at hl 1 rfl) ?_
          refine va_get (D := (dC, dI)) (ci := 10) (v := .int (nI (k + 1 + 1))) (C := RX10) (T := TX10) (N := 52) hx hb hts (fun _ h => List.mem_cons_of_mem _ (List.mem_append_right _ h)) hown hK hP 0 rfl rfl 6 kc_l_6_52 (hts (.fieldLink RX10 131 "NotEndedModel" "length" "I") (List.mem_cons_of_mem _ (List.mem_append_left _ (List.mem_of_getElem? (i := 1) rfl)))) (fun _ h9 => h9) rfl dX10_put_25 ?_
          refine lv_iload_n hx hb dX10_put_28 rfl (lv_at hl 2 rfl) ?_
          refine lv_iload_n hx hb dX10_put_29 rfl (lv_at hl 0 rfl) ?_
          refine lv_ishr hx hb dX10_put_30 ?_
          refine lv_topi (fun x_70 ex_70 => ?_)
          obtain ⟨x_71, ex_71⟩ : ∃ z : Int32, z = (Int32.toInt8 x_70).toInt32 := ⟨_, rfl⟩
          refine lv_i2b (v := x_71) hx hb dX10_put_31 ex_71.symm ?_
          have hc_72 : kC1 p0 0 = 1 := by simp [kC1, hy_68, c_69]
          refine va_bast hx hb hK hP hD hS 1 0 rfl rfl (vp_in_nI (n := k + 1 + 1) (N := 120) (by omega) (by decide)) dX10_put_32 (fun H locs hP hD hS => ?_)
          obtain ⟨f_73, ef_73⟩ : ∃ gg9 : Nat → Int32, gg9 = upd f_63 (Int32.toNatClampNeg (nI (k + 1 + 1))) (vp_nar .byte x_71) := ⟨_, rfl⟩
          have hPD : kPD dC dI A [(jM, .inr (10, [v0, .ref m1, v2, v3, v4, v5, .int (nI (k + 1 + 1)), v7, v8, v9, v10, v11, v12, v13, v14, v15, v16, v17, v18, v19, v20, v21, v22, v23, v24, v25, v26, v27, v28, v29, v30, v31, v32, v33, v34, v35, v36, v37, v38, v39, v40, v41, v42, v43, v44, v45, v46, v47, v48, v49, v50, v51])), (m1, .inl (mc1, 120, .inl f_73))] H := by rw [ef_73]; exact ⟨hP, hD⟩
          obtain ⟨hP, hD⟩ := hPD
          refine lv_aload_n hx hb dX10_put_33 rfl (lv_at hl 1 rfl) ?_
          refine lv_dup hx hb dX10_put_34 rfl ?_
          refine va_get (D := (dC, dI)) (ci := 10) (v := .int (nI (k + 1 + 1))) (C := RX10) (T := TX10) (N := 52) hx hb hts (fun _ h => List.mem_cons_of_mem _ (List.mem_append_right _ h)) hown hK hP 0 rfl rfl 6 kc_l_6_52 (hts (.fieldLink RX10 131 "NotEndedModel" "length" "I") (List.mem_cons_of_mem _ (List.mem_append_left _ (List.mem_of_getElem? (i := 1) rfl)))) (fun _ h9 => h9) rfl dX10_put_35 ?_
          refine lv_iconst (v := 1) hx hb dX10_put_38 kc_i_1 ?_
          refine lv_iadd hx hb dX10_put_39 ?_
          refine lv_topi (fun y_74 ey_74 => ?_)
          obtain rfl : y_74 = nI (k + 1 + 1 + 1) := ey_74.trans (nI_add (k + 1 + 1) (1))
          refine va_put (D := (dC, dI)) (ci := 10) (v := .int (nI (k + 1 + 1 + 1))) (ty := tyX10 6) (C := RX10) (T := TX10) (N := 52) hx hb hts (fun _ h => List.mem_cons_of_mem _ (List.mem_append_right _ h)) tyX10 tyX10_ok nmX10 hown hK hP hD hS 0 rfl rfl 6 kc_l_6_52 (hts (.fieldLink RX10 131 "NotEndedModel" "length" "I") (List.mem_cons_of_mem _ (List.mem_append_left _ (List.mem_of_getElem? (i := 1) rfl)))) (fun _ h9 => h9) rfl (tyX10_ok 6 kc_l_6_52) rfl rfl (Nat.le_of_ble_eq_true rfl) dX10_put_40 (fun H locs hP hD hS => ?_)
          have hPD : kPD dC dI A [(jM, .inr (10, [v0, .ref m1, v2, v3, v4, v5, .int (nI (k + 1 + 1 + 1)), v7, v8, v9, v10, v11, v12, v13, v14, v15, v16, v17, v18, v19, v20, v21, v22, v23, v24, v25, v26, v27, v28, v29, v30, v31, v32, v33, v34, v35, v36, v37, v38, v39, v40, v41, v42, v43, v44, v45, v46, v47, v48, v49, v50, v51])), (m1, .inl (mc1, 120, .inl f_73))] H := ⟨hP, hD⟩
          obtain ⟨hP, hD⟩ := hPD
          refine lv_iinc (v := (-8)) hx hb dX10_put_43 hl (k := 0) rfl (by decide) kc_l_2_3 (kTo [(2, .int (-8)), (0, .ref jM), (1, .int p0)]) (fun ls hl => ?_)
          refine lv_goto (tgt := 3) hx hb dX10_put_46 kc_t_46_m43 ?_
          refine lv_iload_n hx hb dX10_put_3 rfl (lv_at hl 0 rfl) ?_
          refine lv_if_lt (tgt := 49) hx hb dX10_put_4 kc_t_4_45 (fun c_75 => ?_) (fun c_75 => absurd (by decide) c_75)
          have hk9 : kCnt p0 = 3 := by simp [kCnt, kC1, hy_4, hy_14, hy_58, hy_68, c_5, c_15, c_59, c_69]
          have hP9 : va_P (dC, dI) vwCl [(jM, .inr (10, [v0, .ref m1, v2, v3, v4, v5, .int (nI (k + kCnt p0)), v7, v8, v9, v10, v11, v12, v13, v14, v15, v16, v17, v18, v19, v20, v21, v22, v23, v24, v25, v26, v27, v28, v29, v30, v31, v32, v33, v34, v35, v36, v37, v38, v39, v40, v41, v42, v43, v44, v45, v46, v47, v48, v49, v50, v51])), (m1, .inl (mc1, 120, .inl f_73))] H := by rw [hk9]; exact hP.sub [0, 1] rfl
          have hD9 : va_D A [(jM, .inr (10, [v0, .ref m1, v2, v3, v4, v5, .int (nI (k + kCnt p0)), v7, v8, v9, v10, v11, v12, v13, v14, v15, v16, v17, v18, v19, v20, v21, v22, v23, v24, v25, v26, v27, v28, v29, v30, v31, v32, v33, v34, v35, v36, v37, v38, v39, v40, v41, v42, v43, v44, v45, v46, v47, v48, v49, v50, v51])), (m1, .inl (mc1, 120, .inl f_73))] := by rw [hk9]; exact hD.sub [0, 1] (by decide) rfl
          have hK9 := hK
          rw [hQ]
          exact W.vret hx hb hr (fun t ht hW => ⟨⟨(f_73, (kUpN (kUpN (kUpN bt k (kSn p0 24)) (k + 1) (kSn p0 8)) (k + 1 + 1) (kSn p0 0))), rfl, ⟨by rw [hk9]; unfold kPut; rw [kP1_n (k := 24) (fun z => c_5 (hy_4.symm.trans z)), kP1_z (k := 16) (hy_14.trans c_15), kP1_n (k := 8) (fun z => c_59 (hy_58.symm.trans z)), kP1_n (k := 0) (fun z => c_69 (hy_68.symm.trans z))], (kUpM (h := 0) (by omega) ef_73 ex_71 ex_70 (kUpM (h := 8) (by omega) ef_63 ex_61 ex_60 (kUpM (h := 24) (by omega) ef_9 ex_7 ex_6 hbm))), (kUp8 (kUp8 (kUp8 hb8)))⟩,  by rw [ht]; exact hP9, va_K.moved hW.alike hK9, hD9⟩, hS.F ht⟩) hS.2.2 dX10_put_49
        · refine lv_goto (tgt := 43) hx hb dX10_put_17 kc_t_17_26 ?_
          refine lv_iinc (v := (-8)) hx hb dX10_put_43 hl (k := 0) rfl (by decide) kc_l_2_3 (kTo [(2, .int (-8)), (0, .ref jM), (1, .int p0)]) (fun ls hl => ?_)
          refine lv_goto (tgt := 3) hx hb dX10_put_46 kc_t_46_m43 ?_
          refine lv_iload_n hx hb dX10_put_3 rfl (lv_at hl 0 rfl) ?_
          refine lv_if_lt (tgt := 49) hx hb dX10_put_4 kc_t_4_45 (fun c_76 => ?_) (fun c_76 => absurd (by decide) c_76)
          have hk9 : kCnt p0 = 2 := by simp [kCnt, kC1, hy_4, hy_14, hy_58, hy_68, c_5, c_15, c_59, c_69]
          have hP9 : va_P (dC, dI) vwCl [(jM, .inr (10, [v0, .ref m1, v2, v3, v4, v5, .int (nI (k + kCnt p0)), v7, v8, v9, v10, v11, v12, v13, v14, v15, v16, v17, v18, v19, v20, v21, v22, v23, v24, v25, v26, v27, v28, v29, v30, v31, v32, v33, v34, v35, v36, v37, v38, v39, v40, v41, v42, v43, v44, v45, v46, v47, v48, v49, v50, v51])), (m1, .inl (mc1, 120, .inl f_63))] H := by rw [hk9]; exact hP.sub [0, 1] rfl
          have hD9 : va_D A [(jM, .inr (10, [v0, .ref m1, v2, v3, v4, v5, .int (nI (k + kCnt p0)), v7, v8, v9, v10, v11, v12, v13, v14, v15, v16, v17, v18, v19, v20, v21, v22, v23, v24, v25, v26, v27, v28, v29, v30, v31, v32, v33, v34, v35, v36, v37, v38, v39, v40, v41, v42, v43, v44, v45, v46, v47, v48, v49, v50, v51])), (m1, .inl (mc1, 120, .inl f_63))] := by rw [hk9]; exact hD.sub [0, 1] (by decide) rfl
          have hK9 := hK
          rw [hQ]
          exact W.vret hx hb hr (fun t ht hW => ⟨⟨(f_63, (kUpN (kUpN bt k (kSn p0 24)) (k + 1) (kSn p0 8))), rfl, ⟨by rw [hk9]; unfold kPut; rw [kP1_n (k := 24) (fun z => c_5 (hy_4.symm.trans z)), kP1_z (k := 16) (hy_14.trans c_15), kP1_n (k := 8) (fun z => c_59 (hy_58.symm.trans z)), kP1_z (k := 0) (hy_68.trans c_69)], (kUpM (h := 8) (by omega) ef_63 ex_61 ex_60 (kUpM (h := 24) (by omega) ef_9 ex_7 ex_6 hbm)), (kUp8 (kUp8 hb8))⟩,  by rw [ht]; exact hP9, va_K.moved hW.alike hK9, hD9⟩, hS.F ht⟩) hS.2.2 dX10_put_49
      · refine lv_goto (tgt := 43) hx hb dX10_put_17 kc_t_17_26 ?_
        refine lv_iinc (v := 0) hx hb dX10_put_43 hl (k := 0) rfl (by decide) kc_l_2_3 (kTo [(2, .int 0), (0, .ref jM), (1, .int p0)]) (fun ls hl => ?_)
        refine lv_goto (tgt := 3) hx hb dX10_put_46 kc_t_46_m43 ?_
        refine lv_iload_n hx hb dX10_put_3 rfl (lv_at hl 0 rfl) ?_
        refine lv_if_lt (tgt := 49) hx hb dX10_put_4 kc_t_4_45 (fun c_77 => absurd c_77 (by decide)) (fun c_77 => ?_)
        refine lv_iload_n hx hb dX10_put_7 rfl (lv_at hl 2 rfl) ?_
        refine lv_iload_n hx hb dX10_put_8 rfl (lv_at hl 0 rfl) ?_
        refine lv_ishr hx hb dX10_put_9 ?_
        refine lv_topi (fun x_78 ex_78 => ?_)
        refine lv_sipush (v := 255) hx hb dX10_put_10 kc_s_255 ?_
        refine lv_iand hx hb dX10_put_13 ?_
        refine lv_topi (fun x_79 ex_79 => ?_)
        have hy_80 : kS p0 0 = x_79 := by rw [ex_79, ex_78]; rfl
        refine lv_if_ne (tgt := 20) hx hb dX10_put_14 kc_t_14_6 (fun c_81 => ?_) (fun c_81 => ?_)
        · refine lv_aload_n hx hb dX10_put_20 rfl (lv_at hl 1 rfl) ?_
          refine va_get (D := (dC, dI)) (ci := 10) (v := .ref m1) (C := RX10) (T := TX10) (N := 52) hx hb hts (fun _ h => List.mem_cons_of_mem _ (List.mem_append_right _ h)) hown hK hP 0 rfl rfl 1 kc_l_1_52 (hts (.fieldLink RX10 9 "NotEndedModel" "tape" "[B") (List.mem_cons_of_mem _ (List.mem_append_left _ (List.mem_of_getElem? (i := 0) rfl)))) (fun _ h9 => h9) rfl dX10_put_21 ?_
          refine lv_aload_n hx hb dX10_put_24 rfl (lv_at hl 1 rfl) ?_
          refine va_get (D := (dC, dI)) (ci := 10) (v := .int (nI (k + 1))) (C := RX10) (T := TX10) (N := 52) hx hb hts (fun _ h => List.mem_cons_of_mem _ (List.mem_append_right _ h)) hown hK hP 0 rfl rfl 6 kc_l_6_52 (hts (.fieldLink RX10 131 "NotEndedModel" "length" "I") (List.mem_cons_of_mem _ (List.mem_append_left _ (List.mem_of_getElem? (i := 1) rfl)))) (fun _ h9 => h9) rfl dX10_put_25 ?_
          refine lv_iload_n hx hb dX10_put_28 rfl (lv_at hl 2 rfl) ?_
          refine lv_iload_n hx hb dX10_put_29 rfl (lv_at hl 0 rfl) ?_
          refine lv_ishr hx hb dX10_put_30 ?_
          refine lv_topi (fun x_82 ex_82 => ?_)
          obtain ⟨x_83, ex_83⟩ : ∃ z : Int32, z = (Int32.toInt8 x_82).toInt32 := ⟨_, rfl⟩
          refine lv_i2b (v := x_83) hx hb dX10_put_31 ex_83.symm ?_
          have hc_84 : kC1 p0 0 = 1 := by simp [kC1, hy_80, c_81]
          refine va_bast hx hb hK hP hD hS 1 0 rfl rfl (vp_in_nI (n := k + 1) (N := 120) (by omega) (by decide)) dX10_put_32 (fun H locs hP hD hS => ?_)
          obtain ⟨f_85, ef_85⟩ : ∃ gg9 : Nat → Int32, gg9 = upd f_9 (Int32.toNatClampNeg (nI (k + 1))) (vp_nar .byte x_83) := ⟨_, rfl⟩
          have hPD : kPD dC dI A [(jM, .inr (10, [v0, .ref m1, v2, v3, v4, v5, .int (nI (k + 1)), v7, v8, v9, v10, v11, v12, v13, v14, v15, v16, v17, v18, v19, v20, v21, v22, v23, v24, v25, v26, v27, v28, v29, v30, v31, v32, v33, v34, v35, v36, v37, v38, v39, v40, v41, v42, v43, v44, v45, v46, v47, v48, v49, v50, v51])), (m1, .inl (mc1, 120, .inl f_85))] H := by rw [ef_85]; exact ⟨hP, hD⟩
          obtain ⟨hP, hD⟩ := hPD
          refine lv_aload_n hx hb dX10_put_33 rfl (lv_at hl 1 rfl) ?_
          refine lv_dup hx hb dX10_put_34 rfl ?_
          refine va_get (D := (dC, dI)) (ci := 10) (v := .int (nI (k + 1))) (C := RX10) (T := TX10) (N := 52) hx hb hts (fun _ h => List.mem_cons_of_mem _ (List.mem_append_right _ h)) hown hK hP 0 rfl rfl 6 kc_l_6_52 (hts (.fieldLink RX10 131 "NotEndedModel" "length" "I") (List.mem_cons_of_mem _ (List.mem_append_left _ (List.mem_of_getElem? (i := 1) rfl)))) (fun _ h9 => h9) rfl dX10_put_35 ?_
          refine lv_iconst (v := 1) hx hb dX10_put_38 kc_i_1 ?_
          refine lv_iadd hx hb dX10_put_39 ?_
          refine lv_topi (fun y_86 ey_86 => ?_)
          obtain rfl : y_86 = nI (k + 1 + 1) := ey_86.trans (nI_add (k + 1) (1))
          refine va_put (D := (dC, dI)) (ci := 10) (v := .int (nI (k + 1 + 1))) (ty := tyX10 6) (C := RX10) (T := TX10) (N := 52) hx hb hts (fun _ h => List.mem_cons_of_mem _ (List.mem_append_right _ h)) tyX10 tyX10_ok nmX10 hown hK hP hD hS 0 rfl rfl 6 kc_l_6_52 (hts (.fieldLink RX10 131 "NotEndedModel" "length" "I") (List.mem_cons_of_mem _ (List.mem_append_left _ (List.mem_of_getElem? (i := 1) rfl)))) (fun _ h9 => h9) rfl (tyX10_ok 6 kc_l_6_52) rfl rfl (Nat.le_of_ble_eq_true rfl) dX10_put_40 (fun H locs hP hD hS => ?_)
          have hPD : kPD dC dI A [(jM, .inr (10, [v0, .ref m1, v2, v3, v4, v5, .int (nI (k + 1 + 1)), v7, v8, v9, v10, v11, v12, v13, v14, v15, v16, v17, v18, v19, v20, v21, v22, v23, v24, v25, v26, v27, v28, v29, v30, v31, v32, v33, v34, v35, v36, v37, v38, v39, v40, v41, v42, v43, v44, v45, v46, v47, v48, v49, v50, v51])), (m1, .inl (mc1, 120, .inl f_85))] H := ⟨hP, hD⟩
          obtain ⟨hP, hD⟩ := hPD
          refine lv_iinc (v := (-8)) hx hb dX10_put_43 hl (k := 0) rfl (by decide) kc_l_2_3 (kTo [(2, .int (-8)), (0, .ref jM), (1, .int p0)]) (fun ls hl => ?_)
          refine lv_goto (tgt := 3) hx hb dX10_put_46 kc_t_46_m43 ?_
          refine lv_iload_n hx hb dX10_put_3 rfl (lv_at hl 0 rfl) ?_
          refine lv_if_lt (tgt := 49) hx hb dX10_put_4 kc_t_4_45 (fun c_87 => ?_) (fun c_87 => absurd (by decide) c_87)
          have hk9 : kCnt p0 = 2 := by simp [kCnt, kC1, hy_4, hy_14, hy_58, hy_80, c_5, c_15, c_59, c_81]
          have hP9 : va_P (dC, dI) vwCl [(jM, .inr (10, [v0, .ref m1, v2, v3, v4, v5, .int (nI (k + kCnt p0)), v7, v8, v9, v10, v11, v12, v13, v14, v15, v16, v17, v18, v19, v20, v21, v22, v23, v24, v25, v26, v27, v28, v29, v30, v31, v32, v33, v34, v35, v36, v37, v38, v39, v40, v41, v42, v43, v44, v45, v46, v47, v48, v49, v50, v51])), (m1, .inl (mc1, 120, .inl f_85))] H := by rw [hk9]; exact hP.sub [0, 1] rfl
          have hD9 : va_D A [(jM, .inr (10, [v0, .ref m1, v2, v3, v4, v5, .int (nI (k + kCnt p0)), v7, v8, v9, v10, v11, v12, v13, v14, v15, v16, v17, v18, v19, v20, v21, v22, v23, v24, v25, v26, v27, v28, v29, v30, v31, v32, v33, v34, v35, v36, v37, v38, v39, v40, v41, v42, v43, v44, v45, v46, v47, v48, v49, v50, v51])), (m1, .inl (mc1, 120, .inl f_85))] := by rw [hk9]; exact hD.sub [0, 1] (by decide) rfl
          have hK9 := hK
          rw [hQ]
          exact W.vret hx hb hr (fun t ht hW => ⟨⟨(f_85, (kUpN (kUpN bt k (kSn p0 24)) (k + 1) (kSn p0 0))), rfl, ⟨by rw [hk9]; unfold kPut; rw [kP1_n (k := 24) (fun z => c_5 (hy_4.symm.trans z)), kP1_z (k := 16) (hy_14.trans c_15), kP1_z (k := 8) (hy_58.trans c_59), kP1_n (k := 0) (fun z => c_81 (hy_80.symm.trans z))], (kUpM (h := 0) (by omega) ef_85 ex_83 ex_82 (kUpM (h := 24) (by omega) ef_9 ex_7 ex_6 hbm)), (kUp8 (kUp8 hb8))⟩,  by rw [ht]; exact hP9, va_K.moved hW.alike hK9, hD9⟩, hS.F ht⟩) hS.2.2 dX10_put_49
        · refine lv_goto (tgt := 43) hx hb dX10_put_17 kc_t_17_26 ?_
          refine lv_iinc (v := (-8)) hx hb dX10_put_43 hl (k := 0) rfl (by decide) kc_l_2_3 (kTo [(2, .int (-8)), (0, .ref jM), (1, .int p0)]) (fun ls hl => ?_)
          refine lv_goto (tgt := 3) hx hb dX10_put_46 kc_t_46_m43 ?_
          refine lv_iload_n hx hb dX10_put_3 rfl (lv_at hl 0 rfl) ?_
          refine lv_if_lt (tgt := 49) hx hb dX10_put_4 kc_t_4_45 (fun c_88 => ?_) (fun c_88 => absurd (by decide) c_88)
          have hk9 : kCnt p0 = 1 := by simp [kCnt, kC1, hy_4, hy_14, hy_58, hy_80, c_5, c_15, c_59, c_81]
          have hP9 : va_P (dC, dI) vwCl [(jM, .inr (10, [v0, .ref m1, v2, v3, v4, v5, .int (nI (k + kCnt p0)), v7, v8, v9, v10, v11, v12, v13, v14, v15, v16, v17, v18, v19, v20, v21, v22, v23, v24, v25, v26, v27, v28, v29, v30, v31, v32, v33, v34, v35, v36, v37, v38, v39, v40, v41, v42, v43, v44, v45, v46, v47, v48, v49, v50, v51])), (m1, .inl (mc1, 120, .inl f_9))] H := by rw [hk9]; exact hP.sub [0, 1] rfl
          have hD9 : va_D A [(jM, .inr (10, [v0, .ref m1, v2, v3, v4, v5, .int (nI (k + kCnt p0)), v7, v8, v9, v10, v11, v12, v13, v14, v15, v16, v17, v18, v19, v20, v21, v22, v23, v24, v25, v26, v27, v28, v29, v30, v31, v32, v33, v34, v35, v36, v37, v38, v39, v40, v41, v42, v43, v44, v45, v46, v47, v48, v49, v50, v51])), (m1, .inl (mc1, 120, .inl f_9))] := by rw [hk9]; exact hD.sub [0, 1] (by decide) rfl
          have hK9 := hK
          rw [hQ]
          exact W.vret hx hb hr (fun t ht hW => ⟨⟨(f_9, (kUpN bt k (kSn p0 24))), rfl, ⟨by rw [hk9]; unfold kPut; rw [kP1_n (k := 24) (fun z => c_5 (hy_4.symm.trans z)), kP1_z (k := 16) (hy_14.trans c_15), kP1_z (k := 8) (hy_58.trans c_59), kP1_z (k := 0) (hy_80.trans c_81)], (kUpM (h := 24) (by omega) ef_9 ex_7 ex_6 hbm), (kUp8 hb8)⟩,  by rw [ht]; exact hP9, va_K.moved hW.alike hK9, hD9⟩, hS.F ht⟩) hS.2.2 dX10_put_49
  · refine lv_goto (tgt := 43) hx hb dX10_put_17 kc_t_17_26 ?_
    refine lv_iinc (v := 16) hx hb dX10_put_43 hl (k := 0) rfl (by decide) kc_l_2_3 (kTo [(2, .int 16), (0, .ref jM), (1, .int p0)]) (fun ls hl => ?_)
    refine lv_goto (tgt := 3) hx hb dX10_put_46 kc_t_46_m43 ?_
    refine lv_iload_n hx hb dX10_put_3 rfl (lv_at hl 0 rfl) ?_
    refine lv_if_lt (tgt := 49) hx hb dX10_put_4 kc_t_4_45 (fun c_89 => absurd c_89 (by decide)) (fun c_89 => ?_)
    refine lv_iload_n hx hb dX10_put_7 rfl (lv_at hl 2 rfl) ?_
    refine lv_iload_n hx hb dX10_put_8 rfl (lv_at hl 0 rfl) ?_
    refine lv_ishr hx hb dX10_put_9 ?_
    refine lv_topi (fun x_90 ex_90 => ?_)
    refine lv_sipush (v := 255) hx hb dX10_put_10 kc_s_255 ?_
    refine lv_iand hx hb dX10_put_13 ?_
    refine lv_topi (fun x_91 ex_91 => ?_)
    have hy_92 : kS p0 16 = x_91 := by rw [ex_91, ex_90]; rfl
    refine lv_if_ne (tgt := 20) hx hb dX10_put_14 kc_t_14_6 (fun c_93 => ?_) (fun c_93 => ?_)
    · refine lv_aload_n hx hb dX10_put_20 rfl (lv_at hl 1 rfl) ?_
      refine va_get (D := (dC, dI)) (ci := 10) (v := .ref m1) (C := RX10) (T := TX10) (N := 52) hx hb hts (fun _ h => List.mem_cons_of_mem _ (List.mem_append_right _ h)) hown hK hP 0 rfl rfl 1 kc_l_1_52 (hts (.fieldLink RX10 9 "NotEndedModel" "tape" "[B") (List.mem_cons_of_mem _ (List.mem_append_left _ (List.mem_of_getElem? (i := 0) rfl)))) (fun _ h9 => h9) rfl dX10_put_21 ?_
      refine lv_aload_n hx hb dX10_put_24 rfl (lv_at hl 1 rfl) ?_
      refine va_get (D := (dC, dI)) (ci := 10) (v := .int (nI (k))) (C := RX10) (T := TX10) (N := 52) hx hb hts (fun _ h => List.mem_cons_of_mem _ (List.mem_append_right _ h)) hown hK hP 0 rfl rfl 6 kc_l_6_52 (hts (.fieldLink RX10 131 "NotEndedModel" "length" "I") (List.mem_cons_of_mem _ (List.mem_append_left _ (List.mem_of_getElem? (i := 1) rfl)))) (fun _ h9 => h9) rfl dX10_put_25 ?_
      refine lv_iload_n hx hb dX10_put_28 rfl (lv_at hl 2 rfl) ?_
      refine lv_iload_n hx hb dX10_put_29 rfl (lv_at hl 0 rfl) ?_
      refine lv_ishr hx hb dX10_put_30 ?_
      refine lv_topi (fun x_94 ex_94 => ?_)
      obtain ⟨x_95, ex_95⟩ : ∃ z : Int32, z = (Int32.toInt8 x_94).toInt32 := ⟨_, rfl⟩
      refine lv_i2b (v := x_95) hx hb dX10_put_31 ex_95.symm ?_
      have hc_96 : kC1 p0 16 = 1 := by simp [kC1, hy_92, c_93]
      refine va_bast hx hb hK hP hD hS 1 0 rfl rfl (vp_in_nI (n := k) (N := 120) (by omega) (by decide)) dX10_put_32 (fun H locs hP hD hS => ?_)
      obtain ⟨f_97, ef_97⟩ : ∃ gg9 : Nat → Int32, gg9 = upd g (Int32.toNatClampNeg (nI (k))) (vp_nar .byte x_95) := ⟨_, rfl⟩
      have hPD : kPD dC dI A [(jM, .inr (10, [v0, .ref m1, v2, v3, v4, v5, .int (nI (k)), v7, v8, v9, v10, v11, v12, v13, v14, v15, v16, v17, v18, v19, v20, v21, v22, v23, v24, v25, v26, v27, v28, v29, v30, v31, v32, v33, v34, v35, v36, v37, v38, v39, v40, v41, v42, v43, v44, v45, v46, v47, v48, v49, v50, v51])), (m1, .inl (mc1, 120, .inl f_97))] H := by rw [ef_97]; exact ⟨hP, hD⟩
      obtain ⟨hP, hD⟩ := hPD
      refine lv_aload_n hx hb dX10_put_33 rfl (lv_at hl 1 rfl) ?_
      refine lv_dup hx hb dX10_put_34 rfl ?_
      refine va_get (D := (dC, dI)) (ci := 10) (v := .int (nI (k))) (C := RX10) (T := TX10) (N := 52) hx hb hts (fun _ h => List.mem_cons_of_mem _ (List.mem_append_right _ h)) hown hK hP 0 rfl rfl 6 kc_l_6_52 (hts (.fieldLink RX10 131 "NotEndedModel" "length" "I") (List.mem_cons_of_mem _ (List.mem_append_left _ (List.mem_of_getElem? (i := 1) rfl)))) (fun _ h9 => h9) rfl dX10_put_35 ?_
      refine lv_iconst (v := 1) hx hb dX10_put_38 kc_i_1 ?_
      refine lv_iadd hx hb dX10_put_39 ?_
      refine lv_topi (fun y_98 ey_98 => ?_)
      obtain rfl : y_98 = nI (k + 1) := ey_98.trans (nI_add (k) (1))
      refine va_put (D := (dC, dI)) (ci := 10) (v := .int (nI (k + 1))) (ty := tyX10 6) (C := RX10) (T := TX10) (N := 52) hx hb hts (fun _ h => List.mem_cons_of_mem _ (List.mem_append_right _ h)) tyX10 tyX10_ok nmX10 hown hK hP hD hS 0 rfl rfl 6 kc_l_6_52 (hts (.fieldLink RX10 131 "NotEndedModel" "length" "I") (List.mem_cons_of_mem _ (List.mem_append_left _ (List.mem_of_getElem? (i := 1) rfl)))) (fun _ h9 => h9) rfl (tyX10_ok 6 kc_l_6_52) rfl rfl (Nat.le_of_ble_eq_true rfl) dX10_put_40 (fun H locs hP hD hS => ?_)
      have hPD : kPD dC dI A [(jM, .inr (10, [v0, .ref m1, v2, v3, v4, v5, .int (nI (k + 1)), v7, v8, v9, v10, v11, v12, v13, v14, v15, v16, v17, v18, v19, v20, v21, v22, v23, v24, v25, v26, v27, v28, v29, v30, v31, v32, v33, v34, v35, v36, v37, v38, v39, v40, v41, v42, v43, v44, v45, v46, v47, v48, v49, v50, v51])), (m1, .inl (mc1, 120, .inl f_97))] H := ⟨hP, hD⟩
      obtain ⟨hP, hD⟩ := hPD
      refine lv_iinc (v := 8) hx hb dX10_put_43 hl (k := 0) rfl (by decide) kc_l_2_3 (kTo [(2, .int 8), (0, .ref jM), (1, .int p0)]) (fun ls hl => ?_)
      refine lv_goto (tgt := 3) hx hb dX10_put_46 kc_t_46_m43 ?_
      refine lv_iload_n hx hb dX10_put_3 rfl (lv_at hl 0 rfl) ?_
      refine lv_if_lt (tgt := 49) hx hb dX10_put_4 kc_t_4_45 (fun c_99 => absurd c_99 (by decide)) (fun c_99 => ?_)
      refine lv_iload_n hx hb dX10_put_7 rfl (lv_at hl 2 rfl) ?_
      refine lv_iload_n hx hb dX10_put_8 rfl (lv_at hl 0 rfl) ?_
      refine lv_ishr hx hb dX10_put_9 ?_
      refine lv_topi (fun x_100 ex_100 => ?_)
      refine lv_sipush (v := 255) hx hb dX10_put_10 kc_s_255 ?_
      refine lv_iand hx hb dX10_put_13 ?_
      refine lv_topi (fun x_101 ex_101 => ?_)
      have hy_102 : kS p0 8 = x_101 := by rw [ex_101, ex_100]; rfl
      refine lv_if_ne (tgt := 20) hx hb dX10_put_14 kc_t_14_6 (fun c_103 => ?_) (fun c_103 => ?_)
      · refine lv_aload_n hx hb dX10_put_20 rfl (lv_at hl 1 rfl) ?_
        refine va_get (D := (dC, dI)) (ci := 10) (v := .ref m1) (C := RX10) (T := TX10) (N := 52) hx hb hts (fun _ h => List.mem_cons_of_mem _ (List.mem_append_right _ h)) hown hK hP 0 rfl rfl 1 kc_l_1_52 (hts (.fieldLink RX10 9 "NotEndedModel" "tape" "[B") (List.mem_cons_of_mem _ (List.mem_append_left _ (List.mem_of_getElem? (i := 0) rfl)))) (fun _ h9 => h9) rfl dX10_put_21 ?_
        refine lv_aload_n hx hb dX10_put_24 rfl (lv_at hl 1 rfl) ?_
        refine va_get (D := (dC, dI)) (ci := 10) (v := .int (nI (k + 1))) (C := RX10) (T := TX10) (N := 52) hx hb hts (fun _ h => List.mem_cons_of_mem _ (List.mem_append_right _ h)) hown hK hP 0 rfl rfl 6 kc_l_6_52 (hts (.fieldLink RX10 131 "NotEndedModel" "length" "I") (List.mem_cons_of_mem _ (List.mem_append_left _ (List.mem_of_getElem? (i := 1) rfl)))) (fun _ h9 => h9) rfl dX10_put_25 ?_
        refine lv_iload_n hx hb dX10_put_28 rfl (lv_at hl 2 rfl) ?_
        refine lv_iload_n hx hb dX10_put_29 rfl (lv_at hl 0 rfl) ?_
        refine lv_ishr hx hb dX10_put_30 ?_
        refine lv_topi (fun x_104 ex_104 => ?_)
        obtain ⟨x_105, ex_105⟩ : ∃ z : Int32, z = (Int32.toInt8 x_104).toInt32 := ⟨_, rfl⟩
        refine lv_i2b (v := x_105) hx hb dX10_put_31 ex_105.symm ?_
        have hc_106 : kC1 p0 8 = 1 := by simp [kC1, hy_102, c_103]
        refine va_bast hx hb hK hP hD hS 1 0 rfl rfl (vp_in_nI (n := k + 1) (N := 120) (by omega) (by decide)) dX10_put_32 (fun H locs hP hD hS => ?_)
        obtain ⟨f_107, ef_107⟩ : ∃ gg9 : Nat → Int32, gg9 = upd f_97 (Int32.toNatClampNeg (nI (k + 1))) (vp_nar .byte x_105) := ⟨_, rfl⟩
        have hPD : kPD dC dI A [(jM, .inr (10, [v0, .ref m1, v2, v3, v4, v5, .int (nI (k + 1)), v7, v8, v9, v10, v11, v12, v13, v14, v15, v16, v17, v18, v19, v20, v21, v22, v23, v24, v25, v26, v27, v28, v29, v30, v31, v32, v33, v34, v35, v36, v37, v38, v39, v40, v41, v42, v43, v44, v45, v46, v47, v48, v49, v50, v51])), (m1, .inl (mc1, 120, .inl f_107))] H := by rw [ef_107]; exact ⟨hP, hD⟩
        obtain ⟨hP, hD⟩ := hPD
        refine lv_aload_n hx hb dX10_put_33 rfl (lv_at hl 1 rfl) ?_
        refine lv_dup hx hb dX10_put_34 rfl ?_
        refine va_get (D := (dC, dI)) (ci := 10) (v := .int (nI (k + 1))) (C := RX10) (T := TX10) (N := 52) hx hb hts (fun _ h => List.mem_cons_of_mem _ (List.mem_append_right _ h)) hown hK hP 0 rfl rfl 6 kc_l_6_52 (hts (.fieldLink RX10 131 "NotEndedModel" "length" "I") (List.mem_cons_of_mem _ (List.mem_append_left _ (List.mem_of_getElem? (i := 1) rfl)))) (fun _ h9 => h9) rfl dX10_put_35 ?_
        refine lv_iconst (v := 1) hx hb dX10_put_38 kc_i_1 ?_
        refine lv_iadd hx hb dX10_put_39 ?_
        refine lv_topi (fun y_108 ey_108 => ?_)
        obtain rfl : y_108 = nI (k + 1 + 1) := ey_108.trans (nI_add (k + 1) (1))
        refine va_put (D := (dC, dI)) (ci := 10) (v := .int (nI (k + 1 + 1))) (ty := tyX10 6) (C := RX10) (T := TX10) (N := 52) hx hb hts (fun _ h => List.mem_cons_of_mem _ (List.mem_append_right _ h)) tyX10 tyX10_ok nmX10 hown hK hP hD hS 0 rfl rfl 6 kc_l_6_52 (hts (.fieldLink RX10 131 "NotEndedModel" "length" "I") (List.mem_cons_of_mem _ (List.mem_append_left _ (List.mem_of_getElem? (i := 1) rfl)))) (fun _ h9 => h9) rfl (tyX10_ok 6 kc_l_6_52) rfl rfl (Nat.le_of_ble_eq_true rfl) dX10_put_40 (fun H locs hP hD hS => ?_)
        have hPD : kPD dC dI A [(jM, .inr (10, [v0, .ref m1, v2, v3, v4, v5, .int (nI (k + 1 + 1)), v7, v8, v9, v10, v11, v12, v13, v14, v15, v16, v17, v18, v19, v20, v21, v22, v23, v24, v25, v26, v27, v28, v29, v30, v31, v32, v33, v34, v35, v36, v37, v38, v39, v40, v41, v42, v43, v44, v45, v46, v47, v48, v49, v50, v51])), (m1, .inl (mc1, 120, .inl f_107))] H := ⟨hP, hD⟩
        obtain ⟨hP, hD⟩ := hPD
        refine lv_iinc (v := 0) hx hb dX10_put_43 hl (k := 0) rfl (by decide) kc_l_2_3 (kTo [(2, .int 0), (0, .ref jM), (1, .int p0)]) (fun ls hl => ?_)
        refine lv_goto (tgt := 3) hx hb dX10_put_46 kc_t_46_m43 ?_
        refine lv_iload_n hx hb dX10_put_3 rfl (lv_at hl 0 rfl) ?_
        refine lv_if_lt (tgt := 49) hx hb dX10_put_4 kc_t_4_45 (fun c_109 => absurd c_109 (by decide)) (fun c_109 => ?_)
        refine lv_iload_n hx hb dX10_put_7 rfl (lv_at hl 2 rfl) ?_
        refine lv_iload_n hx hb dX10_put_8 rfl (lv_at hl 0 rfl) ?_
        refine lv_ishr hx hb dX10_put_9 ?_
        refine lv_topi (fun x_110 ex_110 => ?_)
        refine lv_sipush (v := 255) hx hb dX10_put_10 kc_s_255 ?_
        refine lv_iand hx hb dX10_put_13 ?_
        refine lv_topi (fun x_111 ex_111 => ?_)
        have hy_112 : kS p0 0 = x_111 := by rw [ex_111, ex_110]; rfl
        refine lv_if_ne (tgt := 20) hx hb dX10_put_14 kc_t_14_6 (fun c_113 => ?_) (fun c_113 => ?_)
        · refine lv_aload_n hx hb dX10_put_20 rfl (lv_at hl 1 rfl) ?_
          refine va_get (D := (dC, dI)) (ci := 10) (v := .ref m1) (C := RX10) (T := TX10) (N := 52) hx hb hts (fun _ h => List.mem_cons_of_mem _ (List.mem_append_right _ h)) hown hK hP 0 rfl rfl 1 kc_l_1_52 (hts (.fieldLink RX10 9 "NotEndedModel" "tape" "[B") (List.mem_cons_of_mem _ (List.mem_append_left _ (List.mem_of_getElem? (i := 0) rfl)))) (fun _ h9 => h9) rfl dX10_put_21 ?_
          refine lv_aload_n hx hb dX10_put_24 rfl (lv_at hl 1 rfl) ?_
          refine va_get (D := (dC, dI)) (ci := 10) (v := .int (nI (k + 1 + 1))) (C := RX10) (T := TX10) (N := 52) hx hb hts (fun _ h => List.mem_cons_of_mem _ (List.mem_append_right _ h)) hown hK hP 0 rfl rfl 6 kc_l_6_52 (hts (.fieldLink RX10 131 "NotEndedModel" "length" "I") (List.mem_cons_of_mem _ (List.mem_append_left _ (List.mem_of_getElem? (i := 1) rfl)))) (fun _ h9 => h9) rfl dX10_put_25 ?_
          refine lv_iload_n hx hb dX10_put_28 rfl (lv_at hl 2 rfl) ?_
          refine lv_iload_n hx hb dX10_put_29 rfl (lv_at hl 0 rfl) ?_
          refine lv_ishr hx hb dX10_put_30 ?_
          refine lv_topi (fun x_114 ex_114 => ?_)
          obtain ⟨x_115, ex_115⟩ : ∃ z : Int32, z = (Int32.toInt8 x_114).toInt32 := ⟨_, rfl⟩
          refine lv_i2b (v := x_115) hx hb dX10_put_31 ex_115.symm ?_
          have hc_116 : kC1 p0 0 = 1 := by simp [kC1, hy_112, c_113]
          refine va_bast hx hb hK hP hD hS 1 0 rfl rfl (vp_in_nI (n := k + 1 + 1) (N := 120) (by omega) (by decide)) dX10_put_32 (fun H locs hP hD hS => ?_)
          obtain ⟨f_117, ef_117⟩ : ∃ gg9 : Nat → Int32, gg9 = upd f_107 (Int32.toNatClampNeg (nI (k + 1 + 1))) (vp_nar .byte x_115) := ⟨_, rfl⟩
          have hPD : kPD dC dI A [(jM, .inr (10, [v0, .ref m1, v2, v3, v4, v5, .int (nI (k + 1 + 1)), v7, v8, v9, v10, v11, v12, v13, v14, v15, v16, v17, v18, v19, v20, v21, v22, v23, v24, v25, v26, v27, v28, v29, v30, v31, v32, v33, v34, v35, v36, v37, v38, v39, v40, v41, v42, v43, v44, v45, v46, v47, v48, v49, v50, v51])), (m1, .inl (mc1, 120, .inl f_117))] H := by rw [ef_117]; exact ⟨hP, hD⟩
          obtain ⟨hP, hD⟩ := hPD
          refine lv_aload_n hx hb dX10_put_33 rfl (lv_at hl 1 rfl) ?_
          refine lv_dup hx hb dX10_put_34 rfl ?_
          refine va_get (D := (dC, dI)) (ci := 10) (v := .int (nI (k + 1 + 1))) (C := RX10) (T := TX10) (N := 52) hx hb hts (fun _ h => List.mem_cons_of_mem _ (List.mem_append_right _ h)) hown hK hP 0 rfl rfl 6 kc_l_6_52 (hts (.fieldLink RX10 131 "NotEndedModel" "length" "I") (List.mem_cons_of_mem _ (List.mem_append_left _ (List.mem_of_getElem? (i := 1) rfl)))) (fun _ h9 => h9) rfl dX10_put_35 ?_
          refine lv_iconst (v := 1) hx hb dX10_put_38 kc_i_1 ?_
          refine lv_iadd hx hb dX10_put_39 ?_
          refine lv_topi (fun y_118 ey_118 => ?_)
          obtain rfl : y_118 = nI (k + 1 + 1 + 1) := ey_118.trans (nI_add (k + 1 + 1) (1))
          refine va_put (D := (dC, dI)) (ci := 10) (v := .int (nI (k + 1 + 1 + 1))) (ty := tyX10 6) (C := RX10) (T := TX10) (N := 52) hx hb hts (fun _ h => List.mem_cons_of_mem _ (List.mem_append_right _ h)) tyX10 tyX10_ok nmX10 hown hK hP hD hS 0 rfl rfl 6 kc_l_6_52 (hts (.fieldLink RX10 131 "NotEndedModel" "length" "I") (List.mem_cons_of_mem _ (List.mem_append_left _ (List.mem_of_getElem? (i := 1) rfl)))) (fun _ h9 => h9) rfl (tyX10_ok 6 kc_l_6_52) rfl rfl (Nat.le_of_ble_eq_true rfl) dX10_put_40 (fun H locs hP hD hS => ?_)
          have hPD : kPD dC dI A [(jM, .inr (10, [v0, .ref m1, v2, v3, v4, v5, .int (nI (k + 1 + 1 + 1)), v7, v8, v9, v10, v11, v12, v13, v14, v15, v16, v17, v18, v19, v20, v21, v22, v23, v24, v25, v26, v27, v28, v29, v30, v31, v32, v33, v34, v35, v36, v37, v38, v39, v40, v41, v42, v43, v44, v45, v46, v47, v48, v49, v50, v51])), (m1, .inl (mc1, 120, .inl f_117))] H := ⟨hP, hD⟩
          obtain ⟨hP, hD⟩ := hPD
          refine lv_iinc (v := (-8)) hx hb dX10_put_43 hl (k := 0) rfl (by decide) kc_l_2_3 (kTo [(2, .int (-8)), (0, .ref jM), (1, .int p0)]) (fun ls hl => ?_)
          refine lv_goto (tgt := 3) hx hb dX10_put_46 kc_t_46_m43 ?_
          refine lv_iload_n hx hb dX10_put_3 rfl (lv_at hl 0 rfl) ?_
          refine lv_if_lt (tgt := 49) hx hb dX10_put_4 kc_t_4_45 (fun c_119 => ?_) (fun c_119 => absurd (by decide) c_119)
          have hk9 : kCnt p0 = 3 := by simp [kCnt, kC1, hy_4, hy_92, hy_102, hy_112, c_5, c_93, c_103, c_113]
          have hP9 : va_P (dC, dI) vwCl [(jM, .inr (10, [v0, .ref m1, v2, v3, v4, v5, .int (nI (k + kCnt p0)), v7, v8, v9, v10, v11, v12, v13, v14, v15, v16, v17, v18, v19, v20, v21, v22, v23, v24, v25, v26, v27, v28, v29, v30, v31, v32, v33, v34, v35, v36, v37, v38, v39, v40, v41, v42, v43, v44, v45, v46, v47, v48, v49, v50, v51])), (m1, .inl (mc1, 120, .inl f_117))] H := by rw [hk9]; exact hP.sub [0, 1] rfl
          have hD9 : va_D A [(jM, .inr (10, [v0, .ref m1, v2, v3, v4, v5, .int (nI (k + kCnt p0)), v7, v8, v9, v10, v11, v12, v13, v14, v15, v16, v17, v18, v19, v20, v21, v22, v23, v24, v25, v26, v27, v28, v29, v30, v31, v32, v33, v34, v35, v36, v37, v38, v39, v40, v41, v42, v43, v44, v45, v46, v47, v48, v49, v50, v51])), (m1, .inl (mc1, 120, .inl f_117))] := by rw [hk9]; exact hD.sub [0, 1] (by decide) rfl
          have hK9 := hK
          rw [hQ]
          exact W.vret hx hb hr (fun t ht hW => ⟨⟨(f_117, (kUpN (kUpN (kUpN bt k (kSn p0 16)) (k + 1) (kSn p0 8)) (k + 1 + 1) (kSn p0 0))), rfl, ⟨by rw [hk9]; unfold kPut; rw [kP1_z (k := 24) (hy_4.trans c_5), kP1_n (k := 16) (fun z => c_93 (hy_92.symm.trans z)), kP1_n (k := 8) (fun z => c_103 (hy_102.symm.trans z)), kP1_n (k := 0) (fun z => c_113 (hy_112.symm.trans z))], (kUpM (h := 0) (by omega) ef_117 ex_115 ex_114 (kUpM (h := 8) (by omega) ef_107 ex_105 ex_104 (kUpM (h := 16) (by omega) ef_97 ex_95 ex_94 hbm))), (kUp8 (kUp8 (kUp8 hb8)))⟩,  by rw [ht]; exact hP9, va_K.moved hW.alike hK9, hD9⟩, hS.F ht⟩) hS.2.2 dX10_put_49
        · refine lv_goto (tgt := 43) hx hb dX10_put_17 kc_t_17_26 ?_
          refine lv_iinc (v := (-8)) hx hb dX10_put_43 hl (k := 0) rfl (by decide) kc_l_2_3 (kTo [(2, .int (-8)), (0, .ref jM), (1, .int p0)]) (fun ls hl => ?_)
          refine lv_goto (tgt := 3) hx hb dX10_put_46 kc_t_46_m43 ?_
          refine lv_iload_n hx hb dX10_put_3 rfl (lv_at hl 0 rfl) ?_
          refine lv_if_lt (tgt := 49) hx hb dX10_put_4 kc_t_4_45 (fun c_120 => ?_) (fun c_120 => absurd (by decide) c_120)
          have hk9 : kCnt p0 = 2 := by simp [kCnt, kC1, hy_4, hy_92, hy_102, hy_112, c_5, c_93, c_103, c_113]
          have hP9 : va_P (dC, dI) vwCl [(jM, .inr (10, [v0, .ref m1, v2, v3, v4, v5, .int (nI (k + kCnt p0)), v7, v8, v9, v10, v11, v12, v13, v14, v15, v16, v17, v18, v19, v20, v21, v22, v23, v24, v25, v26, v27, v28, v29, v30, v31, v32, v33, v34, v35, v36, v37, v38, v39, v40, v41, v42, v43, v44, v45, v46, v47, v48, v49, v50, v51])), (m1, .inl (mc1, 120, .inl f_107))] H := by rw [hk9]; exact hP.sub [0, 1] rfl
          have hD9 : va_D A [(jM, .inr (10, [v0, .ref m1, v2, v3, v4, v5, .int (nI (k + kCnt p0)), v7, v8, v9, v10, v11, v12, v13, v14, v15, v16, v17, v18, v19, v20, v21, v22, v23, v24, v25, v26, v27, v28, v29, v30, v31, v32, v33, v34, v35, v36, v37, v38, v39, v40, v41, v42, v43, v44, v45, v46, v47, v48, v49, v50, v51])), (m1, .inl (mc1, 120, .inl f_107))] := by rw [hk9]; exact hD.sub [0, 1] (by decide) rfl
          have hK9 := hK
          rw [hQ]
          exact W.vret hx hb hr (fun t ht hW => ⟨⟨(f_107, (kUpN (kUpN bt k (kSn p0 16)) (k + 1) (kSn p0 8))), rfl, ⟨by rw [hk9]; unfold kPut; rw [kP1_z (k := 24) (hy_4.trans c_5), kP1_n (k := 16) (fun z => c_93 (hy_92.symm.trans z)), kP1_n (k := 8) (fun z => c_103 (hy_102.symm.trans z)), kP1_z (k := 0) (hy_112.trans c_113)], (kUpM (h := 8) (by omega) ef_107 ex_105 ex_104 (kUpM (h := 16) (by omega) ef_97 ex_95 ex_94 hbm)), (kUp8 (kUp8 hb8))⟩,  by rw [ht]; exact hP9, va_K.moved hW.alike hK9, hD9⟩, hS.F ht⟩) hS.2.2 dX10_put_49
      · refine lv_goto (tgt := 43) hx hb dX10_put_17 kc_t_17_26 ?_
        refine lv_iinc (v := 0) hx hb dX10_put_43 hl (k := 0) rfl (by decide) kc_l_2_3 (kTo [(2, .int 0), (0, .ref jM), (1, .int p0)]) (fun ls hl => ?_)
        refine lv_goto (tgt := 3) hx hb dX10_put_46 kc_t_46_m43 ?_
        refine lv_iload_n hx hb dX10_put_3 rfl (lv_at hl 0 rfl) ?_
        refine lv_if_lt (tgt := 49) hx hb dX10_put_4 kc_t_4_45 (fun c_121 => absurd c_121 (by decide)) (fun c_121 => ?_)
        refine lv_iload_n hx hb dX10_put_7 rfl (lv_at hl 2 rfl) ?_
        refine lv_iload_n hx hb dX10_put_8 rfl (lv_at hl 0 rfl) ?_
        refine lv_ishr hx hb dX10_put_9 ?_
        refine lv_topi (fun x_122 ex_122 => ?_)
        refine lv_sipush (v := 255) hx hb dX10_put_10 kc_s_255 ?_
        refine lv_iand hx hb dX10_put_13 ?_
        refine lv_topi (fun x_123 ex_123 => ?_)
        have hy_124 : kS p0 0 = x_123 := by rw [ex_123, ex_122]; rfl
        refine lv_if_ne (tgt := 20) hx hb dX10_put_14 kc_t_14_6 (fun c_125 => ?_) (fun c_125 => ?_)
        · refine lv_aload_n hx hb dX10_put_20 rfl (lv_at hl 1 rfl) ?_
          refine va_get (D := (dC, dI)) (ci := 10) (v := .ref m1) (C := RX10) (T := TX10) (N := 52) hx hb hts (fun _ h => List.mem_cons_of_mem _ (List.mem_append_right _ h)) hown hK hP 0 rfl rfl 1 kc_l_1_52 (hts (.fieldLink RX10 9 "NotEndedModel" "tape" "[B") (List.mem_cons_of_mem _ (List.mem_append_left _ (List.mem_of_getElem? (i := 0) rfl)))) (fun _ h9 => h9) rfl dX10_put_21 ?_
          refine lv_aload_n hx hb dX10_put_24 rfl (lv_at hl 1 rfl) ?_
          refine va_get (D := (dC, dI)) (ci := 10) (v := .int (nI (k + 1))) (C := RX10) (T := TX10) (N := 52) hx hb hts (fun _ h => List.mem_cons_of_mem _ (List.mem_append_right _ h)) hown hK hP 0 rfl rfl 6 kc_l_6_52 (hts (.fieldLink RX10 131 "NotEndedModel" "length" "I") (List.mem_cons_of_mem _ (List.mem_append_left _ (List.mem_of_getElem? (i := 1) rfl)))) (fun _ h9 => h9) rfl dX10_put_25 ?_
          refine lv_iload_n hx hb dX10_put_28 rfl (lv_at hl 2 rfl) ?_
          refine lv_iload_n hx hb dX10_put_29 rfl (lv_at hl 0 rfl) ?_
          refine lv_ishr hx hb dX10_put_30 ?_
          refine lv_topi (fun x_126 ex_126 => ?_)
          obtain ⟨x_127, ex_127⟩ : ∃ z : Int32, z = (Int32.toInt8 x_126).toInt32 := ⟨_, rfl⟩
          refine lv_i2b (v := x_127) hx hb dX10_put_31 ex_127.symm ?_
          have hc_128 : kC1 p0 0 = 1 := by simp [kC1, hy_124, c_125]
          refine va_bast hx hb hK hP hD hS 1 0 rfl rfl (vp_in_nI (n := k + 1) (N := 120) (by omega) (by decide)) dX10_put_32 (fun H locs hP hD hS => ?_)
          obtain ⟨f_129, ef_129⟩ : ∃ gg9 : Nat → Int32, gg9 = upd f_97 (Int32.toNatClampNeg (nI (k + 1))) (vp_nar .byte x_127) := ⟨_, rfl⟩
          have hPD : kPD dC dI A [(jM, .inr (10, [v0, .ref m1, v2, v3, v4, v5, .int (nI (k + 1)), v7, v8, v9, v10, v11, v12, v13, v14, v15, v16, v17, v18, v19, v20, v21, v22, v23, v24, v25, v26, v27, v28, v29, v30, v31, v32, v33, v34, v35, v36, v37, v38, v39, v40, v41, v42, v43, v44, v45, v46, v47, v48, v49, v50, v51])), (m1, .inl (mc1, 120, .inl f_129))] H := by rw [ef_129]; exact ⟨hP, hD⟩
          obtain ⟨hP, hD⟩ := hPD
          refine lv_aload_n hx hb dX10_put_33 rfl (lv_at hl 1 rfl) ?_
          refine lv_dup hx hb dX10_put_34 rfl ?_
          refine va_get (D := (dC, dI)) (ci := 10) (v := .int (nI (k + 1))) (C := RX10) (T := TX10) (N := 52) hx hb hts (fun _ h => List.mem_cons_of_mem _ (List.mem_append_right _ h)) hown hK hP 0 rfl rfl 6 kc_l_6_52 (hts (.fieldLink RX10 131 "NotEndedModel" "length" "I") (List.mem_cons_of_mem _ (List.mem_append_left _ (List.mem_of_getElem? (i := 1) rfl)))) (fun _ h9 => h9) rfl dX10_put_35 ?_
          refine lv_iconst (v := 1) hx hb dX10_put_38 kc_i_1 ?_
          refine lv_iadd hx hb dX10_put_39 ?_
          refine lv_topi (fun y_130 ey_130 => ?_)
          obtain rfl : y_130 = nI (k + 1 + 1) := ey_130.trans (nI_add (k + 1) (1))
          refine va_put (D := (dC, dI)) (ci := 10) (v := .int (nI (k + 1 + 1))) (ty := tyX10 6) (C := RX10) (T := TX10) (N := 52) hx hb hts (fun _ h => List.mem_cons_of_mem _ (List.mem_append_right _ h)) tyX10 tyX10_ok nmX10 hown hK hP hD hS 0 rfl rfl 6 kc_l_6_52 (hts (.fieldLink RX10 131 "NotEndedModel" "length" "I") (List.mem_cons_of_mem _ (List.mem_append_left _ (List.mem_of_getElem? (i := 1) rfl)))) (fun _ h9 => h9) rfl (tyX10_ok 6 kc_l_6_52) rfl rfl (Nat.le_of_ble_eq_true rfl) dX10_put_40 (fun H locs hP hD hS => ?_)
          have hPD : kPD dC dI A [(jM, .inr (10, [v0, .ref m1, v2, v3, v4, v5, .int (nI (k + 1 + 1)), v7, v8, v9, v10, v11, v12, v13, v14, v15, v16, v17, v18, v19, v20, v21, v22, v23, v24, v25, v26, v27, v28, v29, v30, v31, v32, v33, v34, v35, v36, v37, v38, v39, v40, v41, v42, v43, v44, v45, v46, v47, v48, v49, v50, v51])), (m1, .inl (mc1, 120, .inl f_129))] H := ⟨hP, hD⟩
          obtain ⟨hP, hD⟩ := hPD
          refine lv_iinc (v := (-8)) hx hb dX10_put_43 hl (k := 0) rfl (by decide) kc_l_2_3 (kTo [(2, .int (-8)), (0, .ref jM), (1, .int p0)]) (fun ls hl => ?_)
          refine lv_goto (tgt := 3) hx hb dX10_put_46 kc_t_46_m43 ?_
          refine lv_iload_n hx hb dX10_put_3 rfl (lv_at hl 0 rfl) ?_
          refine lv_if_lt (tgt := 49) hx hb dX10_put_4 kc_t_4_45 (fun c_131 => ?_) (fun c_131 => absurd (by decide) c_131)
          have hk9 : kCnt p0 = 2 := by simp [kCnt, kC1, hy_4, hy_92, hy_102, hy_124, c_5, c_93, c_103, c_125]
          have hP9 : va_P (dC, dI) vwCl [(jM, .inr (10, [v0, .ref m1, v2, v3, v4, v5, .int (nI (k + kCnt p0)), v7, v8, v9, v10, v11, v12, v13, v14, v15, v16, v17, v18, v19, v20, v21, v22, v23, v24, v25, v26, v27, v28, v29, v30, v31, v32, v33, v34, v35, v36, v37, v38, v39, v40, v41, v42, v43, v44, v45, v46, v47, v48, v49, v50, v51])), (m1, .inl (mc1, 120, .inl f_129))] H := by rw [hk9]; exact hP.sub [0, 1] rfl
          have hD9 : va_D A [(jM, .inr (10, [v0, .ref m1, v2, v3, v4, v5, .int (nI (k + kCnt p0)), v7, v8, v9, v10, v11, v12, v13, v14, v15, v16, v17, v18, v19, v20, v21, v22, v23, v24, v25, v26, v27, v28, v29, v30, v31, v32, v33, v34, v35, v36, v37, v38, v39, v40, v41, v42, v43, v44, v45, v46, v47, v48, v49, v50, v51])), (m1, .inl (mc1, 120, .inl f_129))] := by rw [hk9]; exact hD.sub [0, 1] (by decide) rfl
          have hK9 := hK
          rw [hQ]
          exact W.vret hx hb hr (fun t ht hW => ⟨⟨(f_129, (kUpN (kUpN bt k (kSn p0 16)) (k + 1) (kSn p0 0))), rfl, ⟨by rw [hk9]; unfold kPut; rw [kP1_z (k := 24) (hy_4.trans c_5), kP1_n (k := 16) (fun z => c_93 (hy_92.symm.trans z)), kP1_z (k := 8) (hy_102.trans c_103), kP1_n (k := 0) (fun z => c_125 (hy_124.symm.trans z))], (kUpM (h := 0) (by omega) ef_129 ex_127 ex_126 (kUpM (h := 16) (by omega) ef_97 ex_95 ex_94 hbm)), (kUp8 (kUp8 hb8))⟩,  by rw [ht]; exact hP9, va_K.moved hW.alike hK9, hD9⟩, hS.F ht⟩) hS.2.2 dX10_put_49
        · refine lv_goto (tgt := 43) hx hb dX10_put_17 kc_t_17_26 ?_
          refine lv_iinc (v := (-8)) hx hb dX10_put_43 hl (k := 0) rfl (by decide) kc_l_2_3 (kTo [(2, .int (-8)), (0, .ref jM), (1, .int p0)]) (fun ls hl => ?_)
          refine lv_goto (tgt := 3) hx hb dX10_put_46 kc_t_46_m43 ?_
          refine lv_iload_n hx hb dX10_put_3 rfl (lv_at hl 0 rfl) ?_
          refine lv_if_lt (tgt := 49) hx hb dX10_put_4 kc_t_4_45 (fun c_132 => ?_) (fun c_132 => absurd (by decide) c_132)
          have hk9 : kCnt p0 = 1 := by simp [kCnt, kC1, hy_4, hy_92, hy_102, hy_124, c_5, c_93, c_103, c_125]
          have hP9 : va_P (dC, dI) vwCl [(jM, .inr (10, [v0, .ref m1, v2, v3, v4, v5, .int (nI (k + kCnt p0)), v7, v8, v9, v10, v11, v12, v13, v14, v15, v16, v17, v18, v19, v20, v21, v22, v23, v24, v25, v26, v27, v28, v29, v30, v31, v32, v33, v34, v35, v36, v37, v38, v39, v40, v41, v42, v43, v44, v45, v46, v47, v48, v49, v50, v51])), (m1, .inl (mc1, 120, .inl f_97))] H := by rw [hk9]; exact hP.sub [0, 1] rfl
          have hD9 : va_D A [(jM, .inr (10, [v0, .ref m1, v2, v3, v4, v5, .int (nI (k + kCnt p0)), v7, v8, v9, v10, v11, v12, v13, v14, v15, v16, v17, v18, v19, v20, v21, v22, v23, v24, v25, v26, v27, v28, v29, v30, v31, v32, v33, v34, v35, v36, v37, v38, v39, v40, v41, v42, v43, v44, v45, v46, v47, v48, v49, v50, v51])), (m1, .inl (mc1, 120, .inl f_97))] := by rw [hk9]; exact hD.sub [0, 1] (by decide) rfl
          have hK9 := hK
          rw [hQ]
          exact W.vret hx hb hr (fun t ht hW => ⟨⟨(f_97, (kUpN bt k (kSn p0 16))), rfl, ⟨by rw [hk9]; unfold kPut; rw [kP1_z (k := 24) (hy_4.trans c_5), kP1_n (k := 16) (fun z => c_93 (hy_92.symm.trans z)), kP1_z (k := 8) (hy_102.trans c_103), kP1_z (k := 0) (hy_124.trans c_125)], (kUpM (h := 16) (by omega) ef_97 ex_95 ex_94 hbm), (kUp8 hb8)⟩,  by rw [ht]; exact hP9, va_K.moved hW.alike hK9, hD9⟩, hS.F ht⟩) hS.2.2 dX10_put_49
    · refine lv_goto (tgt := 43) hx hb dX10_put_17 kc_t_17_26 ?_
      refine lv_iinc (v := 8) hx hb dX10_put_43 hl (k := 0) rfl (by decide) kc_l_2_3 (kTo [(2, .int 8), (0, .ref jM), (1, .int p0)]) (fun ls hl => ?_)
      refine lv_goto (tgt := 3) hx hb dX10_put_46 kc_t_46_m43 ?_
      refine lv_iload_n hx hb dX10_put_3 rfl (lv_at hl 0 rfl) ?_
      refine lv_if_lt (tgt := 49) hx hb dX10_put_4 kc_t_4_45 (fun c_133 => absurd c_133 (by decide)) (fun c_133 => ?_)
      refine lv_iload_n hx hb dX10_put_7 rfl (lv_at hl 2 rfl) ?_
      refine lv_iload_n hx hb dX10_put_8 rfl (lv_at hl 0 rfl) ?_
      refine lv_ishr hx hb dX10_put_9 ?_
      refine lv_topi (fun x_134 ex_134 => ?_)
      refine lv_sipush (v := 255) hx hb dX10_put_10 kc_s_255 ?_
      refine lv_iand hx hb dX10_put_13 ?_
      refine lv_topi (fun x_135 ex_135 => ?_)
      have hy_136 : kS p0 8 = x_135 := by rw [ex_135, ex_134]; rfl
      refine lv_if_ne (tgt := 20) hx hb dX10_put_14 kc_t_14_6 (fun c_137 => ?_) (fun c_137 => ?_)
      · refine lv_aload_n hx hb dX10_put_20 rfl (lv_at hl 1 rfl) ?_
        refine va_get (D := (dC, dI)) (ci := 10) (v := .ref m1) (C := RX10) (T := TX10) (N := 52) hx hb hts (fun _ h => List.mem_cons_of_mem _ (List.mem_append_right _ h)) hown hK hP 0 rfl rfl 1 kc_l_1_52 (hts (.fieldLink RX10 9 "NotEndedModel" "tape" "[B") (List.mem_cons_of_mem _ (List.mem_append_left _ (List.mem_of_getElem? (i := 0) rfl)))) (fun _ h9 => h9) rfl dX10_put_21 ?_
        refine lv_aload_n hx hb dX10_put_24 rfl (lv_at hl 1 rfl) ?_
        refine va_get (D := (dC, dI)) (ci := 10) (v := .int (nI (k))) (C := RX10) (T := TX10) (N := 52) hx hb hts (fun _ h => List.mem_cons_of_mem _ (List.mem_append_right _ h)) hown hK hP 0 rfl rfl 6 kc_l_6_52 (hts (.fieldLink RX10 131 "NotEndedModel" "length" "I") (List.mem_cons_of_mem _ (List.mem_append_left _ (List.mem_of_getElem? (i := 1) rfl)))) (fun _ h9 => h9) rfl dX10_put_25 ?_
        refine lv_iload_n hx hb dX10_put_28 rfl (lv_at hl 2 rfl) ?_
        refine lv_iload_n hx hb dX10_put_29 rfl (lv_at hl 0 rfl) ?_
        refine lv_ishr hx hb dX10_put_30 ?_
        refine lv_topi (fun x_138 ex_138 => ?_)
        obtain ⟨x_139, ex_139⟩ : ∃ z : Int32, z = (Int32.toInt8 x_138).toInt32 := ⟨_, rfl⟩
        refine lv_i2b (v := x_139) hx hb dX10_put_31 ex_139.symm ?_
        have hc_140 : kC1 p0 8 = 1 := by simp [kC1, hy_136, c_137]
        refine va_bast hx hb hK hP hD hS 1 0 rfl rfl (vp_in_nI (n := k) (N := 120) (by omega) (by decide)) dX10_put_32 (fun H locs hP hD hS => ?_)
        obtain ⟨f_141, ef_141⟩ : ∃ gg9 : Nat → Int32, gg9 = upd g (Int32.toNatClampNeg (nI (k))) (vp_nar .byte x_139) := ⟨_, rfl⟩
        have hPD : kPD dC dI A [(jM, .inr (10, [v0, .ref m1, v2, v3, v4, v5, .int (nI (k)), v7, v8, v9, v10, v11, v12, v13, v14, v15, v16, v17, v18, v19, v20, v21, v22, v23, v24, v25, v26, v27, v28, v29, v30, v31, v32, v33, v34, v35, v36, v37, v38, v39, v40, v41, v42, v43, v44, v45, v46, v47, v48, v49, v50, v51])), (m1, .inl (mc1, 120, .inl f_141))] H := by rw [ef_141]; exact ⟨hP, hD⟩
        obtain ⟨hP, hD⟩ := hPD
        refine lv_aload_n hx hb dX10_put_33 rfl (lv_at hl 1 rfl) ?_
        refine lv_dup hx hb dX10_put_34 rfl ?_
        refine va_get (D := (dC, dI)) (ci := 10) (v := .int (nI (k))) (C := RX10) (T := TX10) (N := 52) hx hb hts (fun _ h => List.mem_cons_of_mem _ (List.mem_append_right _ h)) hown hK hP 0 rfl rfl 6 kc_l_6_52 (hts (.fieldLink RX10 131 "NotEndedModel" "length" "I") (List.mem_cons_of_mem _ (List.mem_append_left _ (List.mem_of_getElem? (i := 1) rfl)))) (fun _ h9 => h9) rfl dX10_put_35 ?_
        refine lv_iconst (v := 1) hx hb dX10_put_38 kc_i_1 ?_
        refine lv_iadd hx hb dX10_put_39 ?_
        refine lv_topi (fun y_142 ey_142 => ?_)
        obtain rfl : y_142 = nI (k + 1) := ey_142.trans (nI_add (k) (1))
        refine va_put (D := (dC, dI)) (ci := 10) (v := .int (nI (k + 1))) (ty := tyX10 6) (C := RX10) (T := TX10) (N := 52) hx hb hts (fun _ h => List.mem_cons_of_mem _ (List.mem_append_right _ h)) tyX10 tyX10_ok nmX10 hown hK hP hD hS 0 rfl rfl 6 kc_l_6_52 (hts (.fieldLink RX10 131 "NotEndedModel" "length" "I") (List.mem_cons_of_mem _ (List.mem_append_left _ (List.mem_of_getElem? (i := 1) rfl)))) (fun _ h9 => h9) rfl (tyX10_ok 6 kc_l_6_52) rfl rfl (Nat.le_of_ble_eq_true rfl) dX10_put_40 (fun H locs hP hD hS => ?_)
        have hPD : kPD dC dI A [(jM, .inr (10, [v0, .ref m1, v2, v3, v4, v5, .int (nI (k + 1)), v7, v8, v9, v10, v11, v12, v13, v14, v15, v16, v17, v18, v19, v20, v21, v22, v23, v24, v25, v26, v27, v28, v29, v30, v31, v32, v33, v34, v35, v36, v37, v38, v39, v40, v41, v42, v43, v44, v45, v46, v47, v48, v49, v50, v51])), (m1, .inl (mc1, 120, .inl f_141))] H := ⟨hP, hD⟩
        obtain ⟨hP, hD⟩ := hPD
        refine lv_iinc (v := 0) hx hb dX10_put_43 hl (k := 0) rfl (by decide) kc_l_2_3 (kTo [(2, .int 0), (0, .ref jM), (1, .int p0)]) (fun ls hl => ?_)
        refine lv_goto (tgt := 3) hx hb dX10_put_46 kc_t_46_m43 ?_
        refine lv_iload_n hx hb dX10_put_3 rfl (lv_at hl 0 rfl) ?_
        refine lv_if_lt (tgt := 49) hx hb dX10_put_4 kc_t_4_45 (fun c_143 => absurd c_143 (by decide)) (fun c_143 => ?_)
        refine lv_iload_n hx hb dX10_put_7 rfl (lv_at hl 2 rfl) ?_
        refine lv_iload_n hx hb dX10_put_8 rfl (lv_at hl 0 rfl) ?_
        refine lv_ishr hx hb dX10_put_9 ?_
        refine lv_topi (fun x_144 ex_144 => ?_)
        refine lv_sipush (v := 255) hx hb dX10_put_10 kc_s_255 ?_
        refine lv_iand hx hb dX10_put_13 ?_
        refine lv_topi (fun x_145 ex_145 => ?_)
        have hy_146 : kS p0 0 = x_145 := by rw [ex_145, ex_144]; rfl
        refine lv_if_ne (tgt := 20) hx hb dX10_put_14 kc_t_14_6 (fun c_147 => ?_) (fun c_147 => ?_)
        · refine lv_aload_n hx hb dX10_put_20 rfl (lv_at hl 1 rfl) ?_
          refine va_get (D := (dC, dI)) (ci := 10) (v := .ref m1) (C := RX10) (T := TX10) (N := 52) hx hb hts (fun _ h => List.mem_cons_of_mem _ (List.mem_append_right _ h)) hown hK hP 0 rfl rfl 1 kc_l_1_52 (hts (.fieldLink RX10 9 "NotEndedModel" "tape" "[B") (List.mem_cons_of_mem _ (List.mem_append_left _ (List.mem_of_getElem? (i := 0) rfl)))) (fun _ h9 => h9) rfl dX10_put_21 ?_
          refine lv_aload_n hx hb dX10_put_24 rfl (lv_at hl 1 rfl) ?_
          refine va_get (D := (dC, dI)) (ci := 10) (v := .int (nI (k + 1))) (C := RX10) (T := TX10) (N := 52) hx hb hts (fun _ h => List.mem_cons_of_mem _ (List.mem_append_right _ h)) hown hK hP 0 rfl rfl 6 kc_l_6_52 (hts (.fieldLink RX10 131 "NotEndedModel" "length" "I") (List.mem_cons_of_mem _ (List.mem_append_left _ (List.mem_of_getElem? (i := 1) rfl)))) (fun _ h9 => h9) rfl dX10_put_25 ?_
          refine lv_iload_n hx hb dX10_put_28 rfl (lv_at hl 2 rfl) ?_
          refine lv_iload_n hx hb dX10_put_29 rfl (lv_at hl 0 rfl) ?_
          refine lv_ishr hx hb dX10_put_30 ?_
          refine lv_topi (fun x_148 ex_148 => ?_)
          obtain ⟨x_149, ex_149⟩ : ∃ z : Int32, z = (Int32.toInt8 x_148).toInt32 := ⟨_, rfl⟩
          refine lv_i2b (v := x_149) hx hb dX10_put_31 ex_149.symm ?_
          have hc_150 : kC1 p0 0 = 1 := by simp [kC1, hy_146, c_147]
          refine va_bast hx hb hK hP hD hS 1 0 rfl rfl (vp_in_nI (n := k + 1) (N := 120) (by omega) (by decide)) dX10_put_32 (fun H locs hP hD hS => ?_)
          obtain ⟨f_151, ef_151⟩ : ∃ gg9 : Nat → Int32, gg9 = upd f_141 (Int32.toNatClampNeg (nI (k + 1))) (vp_nar .byte x_149) := ⟨_, rfl⟩
          have hPD : kPD dC dI A [(jM, .inr (10, [v0, .ref m1, v2, v3, v4, v5, .int (nI (k + 1)), v7, v8, v9, v10, v11, v12, v13, v14, v15, v16, v17, v18, v19, v20, v21, v22, v23, v24, v25, v26, v27, v28, v29, v30, v31, v32, v33, v34, v35, v36, v37, v38, v39, v40, v41, v42, v43, v44, v45, v46, v47, v48, v49, v50, v51])), (m1, .inl (mc1, 120, .inl f_151))] H := by rw [ef_151]; exact ⟨hP, hD⟩
          obtain ⟨hP, hD⟩ := hPD
          refine lv_aload_n hx hb dX10_put_33 rfl (lv_at hl 1 rfl) ?_
          refine lv_dup hx hb dX10_put_34 rfl ?_
          refine va_get (D := (dC, dI)) (ci := 10) (v := .int (nI (k + 1))) (C := RX10) (T := TX10) (N := 52) hx hb hts (fun _ h => List.mem_cons_of_mem _ (List.mem_append_right _ h)) hown hK hP 0 rfl rfl 6 kc_l_6_52 (hts (.fieldLink RX10 131 "NotEndedModel" "length" "I") (List.mem_cons_of_mem _ (List.mem_append_left _ (List.mem_of_getElem? (i := 1) rfl)))) (fun _ h9 => h9) rfl dX10_put_35 ?_
          refine lv_iconst (v := 1) hx hb dX10_put_38 kc_i_1 ?_
          refine lv_iadd hx hb dX10_put_39 ?_
          refine lv_topi (fun y_152 ey_152 => ?_)
          obtain rfl : y_152 = nI (k + 1 + 1) := ey_152.trans (nI_add (k + 1) (1))
          refine va_put (D := (dC, dI)) (ci := 10) (v := .int (nI (k + 1 + 1))) (ty := tyX10 6) (C := RX10) (T := TX10) (N := 52) hx hb hts (fun _ h => List.mem_cons_of_mem _ (List.mem_append_right _ h)) tyX10 tyX10_ok nmX10 hown hK hP hD hS 0 rfl rfl 6 kc_l_6_52 (hts (.fieldLink RX10 131 "NotEndedModel" "length" "I") (List.mem_cons_of_mem _ (List.mem_append_left _ (List.mem_of_getElem? (i := 1) rfl)))) (fun _ h9 => h9) rfl (tyX10_ok 6 kc_l_6_52) rfl rfl (Nat.le_of_ble_eq_true rfl) dX10_put_40 (fun H locs hP hD hS => ?_)
          have hPD : kPD dC dI A [(jM, .inr (10, [v0, .ref m1, v2, v3, v4, v5, .int (nI (k + 1 + 1)), v7, v8, v9, v10, v11, v12, v13, v14, v15, v16, v17, v18, v19, v20, v21, v22, v23, v24, v25, v26, v27, v28, v29, v30, v31, v32, v33, v34, v35, v36, v37, v38, v39, v40, v41, v42, v43, v44, v45, v46, v47, v48, v49, v50, v51])), (m1, .inl (mc1, 120, .inl f_151))] H := ⟨hP, hD⟩
          obtain ⟨hP, hD⟩ := hPD
          refine lv_iinc (v := (-8)) hx hb dX10_put_43 hl (k := 0) rfl (by decide) kc_l_2_3 (kTo [(2, .int (-8)), (0, .ref jM), (1, .int p0)]) (fun ls hl => ?_)
          refine lv_goto (tgt := 3) hx hb dX10_put_46 kc_t_46_m43 ?_
          refine lv_iload_n hx hb dX10_put_3 rfl (lv_at hl 0 rfl) ?_
          refine lv_if_lt (tgt := 49) hx hb dX10_put_4 kc_t_4_45 (fun c_153 => ?_) (fun c_153 => absurd (by decide) c_153)
          have hk9 : kCnt p0 = 2 := by simp [kCnt, kC1, hy_4, hy_92, hy_136, hy_146, c_5, c_93, c_137, c_147]
          have hP9 : va_P (dC, dI) vwCl [(jM, .inr (10, [v0, .ref m1, v2, v3, v4, v5, .int (nI (k + kCnt p0)), v7, v8, v9, v10, v11, v12, v13, v14, v15, v16, v17, v18, v19, v20, v21, v22, v23, v24, v25, v26, v27, v28, v29, v30, v31, v32, v33, v34, v35, v36, v37, v38, v39, v40, v41, v42, v43, v44, v45, v46, v47, v48, v49, v50, v51])), (m1, .inl (mc1, 120, .inl f_151))] H := by rw [hk9]; exact hP.sub [0, 1] rfl
          have hD9 : va_D A [(jM, .inr (10, [v0, .ref m1, v2, v3, v4, v5, .int (nI (k + kCnt p0)), v7, v8, v9, v10, v11, v12, v13, v14, v15, v16, v17, v18, v19, v20, v21, v22, v23, v24, v25, v26, v27, v28, v29, v30, v31, v32, v33, v34, v35, v36, v37, v38, v39, v40, v41, v42, v43, v44, v45, v46, v47, v48, v49, v50, v51])), (m1, .inl (mc1, 120, .inl f_151))] := by rw [hk9]; exact hD.sub [0, 1] (by decide) rfl
          have hK9 := hK
          rw [hQ]
          exact W.vret hx hb hr (fun t ht hW => ⟨⟨(f_151, (kUpN (kUpN bt k (kSn p0 8)) (k + 1) (kSn p0 0))), rfl, ⟨by rw [hk9]; unfold kPut; rw [kP1_z (k := 24) (hy_4.trans c_5), kP1_z (k := 16) (hy_92.trans c_93), kP1_n (k := 8) (fun z => c_137 (hy_136.symm.trans z)), kP1_n (k := 0) (fun z => c_147 (hy_146.symm.trans z))], (kUpM (h := 0) (by omega) ef_151 ex_149 ex_148 (kUpM (h := 8) (by omega) ef_141 ex_139 ex_138 hbm)), (kUp8 (kUp8 hb8))⟩,  by rw [ht]; exact hP9, va_K.moved hW.alike hK9, hD9⟩, hS.F ht⟩) hS.2.2 dX10_put_49
        · refine lv_goto (tgt := 43) hx hb dX10_put_17 kc_t_17_26 ?_
          refine lv_iinc (v := (-8)) hx hb dX10_put_43 hl (k := 0) rfl (by decide) kc_l_2_3 (kTo [(2, .int (-8)), (0, .ref jM), (1, .int p0)]) (fun ls hl => ?_)
          refine lv_goto (tgt := 3) hx hb dX10_put_46 kc_t_46_m43 ?_
          refine lv_iload_n hx hb dX10_put_3 rfl (lv_at hl 0 rfl) ?_
          refine lv_if_lt (tgt := 49) hx hb dX10_put_4 kc_t_4_45 (fun c_154 => ?_) (fun c_154 => absurd (by decide) c_154)
          have hk9 : kCnt p0 = 1 := by simp [kCnt, kC1, hy_4, hy_92, hy_136, hy_146, c_5, c_93, c_137, c_147]
          have hP9 : va_P (dC, dI) vwCl [(jM, .inr (10, [v0, .ref m1, v2, v3, v4, v5, .int (nI (k + kCnt p0)), v7, v8, v9, v10, v11, v12, v13, v14, v15, v16, v17, v18, v19, v20, v21, v22, v23, v24, v25, v26, v27, v28, v29, v30, v31, v32, v33, v34, v35, v36, v37, v38, v39, v40, v41, v42, v43, v44, v45, v46, v47, v48, v49, v50, v51])), (m1, .inl (mc1, 120, .inl f_141))] H := by rw [hk9]; exact hP.sub [0, 1] rfl
          have hD9 : va_D A [(jM, .inr (10, [v0, .ref m1, v2, v3, v4, v5, .int (nI (k + kCnt p0)), v7, v8, v9, v10, v11, v12, v13, v14, v15, v16, v17, v18, v19, v20, v21, v22, v23, v24, v25, v26, v27, v28, v29, v30, v31, v32, v33, v34, v35, v36, v37, v38, v39, v40, v41, v42, v43, v44, v45, v46, v47, v48, v49, v50, v51])), (m1, .inl (mc1, 120, .inl f_141))] := by rw [hk9]; exact hD.sub [0, 1] (by decide) rfl
          have hK9 := hK
          rw [hQ]
          exact W.vret hx hb hr (fun t ht hW => ⟨⟨(f_141, (kUpN bt k (kSn p0 8))), rfl, ⟨by rw [hk9]; unfold kPut; rw [kP1_z (k := 24) (hy_4.trans c_5), kP1_z (k := 16) (hy_92.trans c_93), kP1_n (k := 8) (fun z => c_137 (hy_136.symm.trans z)), kP1_z (k := 0) (hy_146.trans c_147)], (kUpM (h := 8) (by omega) ef_141 ex_139 ex_138 hbm), (kUp8 hb8)⟩,  by rw [ht]; exact hP9, va_K.moved hW.alike hK9, hD9⟩, hS.F ht⟩) hS.2.2 dX10_put_49
      · refine lv_goto (tgt := 43) hx hb dX10_put_17 kc_t_17_26 ?_
        refine lv_iinc (v := 0) hx hb dX10_put_43 hl (k := 0) rfl (by decide) kc_l_2_3 (kTo [(2, .int 0), (0, .ref jM), (1, .int p0)]) (fun ls hl => ?_)
        refine lv_goto (tgt := 3) hx hb dX10_put_46 kc_t_46_m43 ?_
        refine lv_iload_n hx hb dX10_put_3 rfl (lv_at hl 0 rfl) ?_
        refine lv_if_lt (tgt := 49) hx hb dX10_put_4 kc_t_4_45 (fun c_155 => absurd c_155 (by decide)) (fun c_155 => ?_)
        refine lv_iload_n hx hb dX10_put_7 rfl (lv_at hl 2 rfl) ?_
        refine lv_iload_n hx hb dX10_put_8 rfl (lv_at hl 0 rfl) ?_
        refine lv_ishr hx hb dX10_put_9 ?_
        refine lv_topi (fun x_156 ex_156 => ?_)
        refine lv_sipush (v := 255) hx hb dX10_put_10 kc_s_255 ?_
        refine lv_iand hx hb dX10_put_13 ?_
        refine lv_topi (fun x_157 ex_157 => ?_)
        have hy_158 : kS p0 0 = x_157 := by rw [ex_157, ex_156]; rfl
        refine lv_if_ne (tgt := 20) hx hb dX10_put_14 kc_t_14_6 (fun c_159 => ?_) (fun c_159 => ?_)
        · refine lv_aload_n hx hb dX10_put_20 rfl (lv_at hl 1 rfl) ?_
          refine va_get (D := (dC, dI)) (ci := 10) (v := .ref m1) (C := RX10) (T := TX10) (N := 52) hx hb hts (fun _ h => List.mem_cons_of_mem _ (List.mem_append_right _ h)) hown hK hP 0 rfl rfl 1 kc_l_1_52 (hts (.fieldLink RX10 9 "NotEndedModel" "tape" "[B") (List.mem_cons_of_mem _ (List.mem_append_left _ (List.mem_of_getElem? (i := 0) rfl)))) (fun _ h9 => h9) rfl dX10_put_21 ?_
          refine lv_aload_n hx hb dX10_put_24 rfl (lv_at hl 1 rfl) ?_
          refine va_get (D := (dC, dI)) (ci := 10) (v := .int (nI (k))) (C := RX10) (T := TX10) (N := 52) hx hb hts (fun _ h => List.mem_cons_of_mem _ (List.mem_append_right _ h)) hown hK hP 0 rfl rfl 6 kc_l_6_52 (hts (.fieldLink RX10 131 "NotEndedModel" "length" "I") (List.mem_cons_of_mem _ (List.mem_append_left _ (List.mem_of_getElem? (i := 1) rfl)))) (fun _ h9 => h9) rfl dX10_put_25 ?_
          refine lv_iload_n hx hb dX10_put_28 rfl (lv_at hl 2 rfl) ?_
          refine lv_iload_n hx hb dX10_put_29 rfl (lv_at hl 0 rfl) ?_
          refine lv_ishr hx hb dX10_put_30 ?_
          refine lv_topi (fun x_160 ex_160 => ?_)
          obtain ⟨x_161, ex_161⟩ : ∃ z : Int32, z = (Int32.toInt8 x_160).toInt32 := ⟨_, rfl⟩
          refine lv_i2b (v := x_161) hx hb dX10_put_31 ex_161.symm ?_
          have hc_162 : kC1 p0 0 = 1 := by simp [kC1, hy_158, c_159]
          refine va_bast hx hb hK hP hD hS 1 0 rfl rfl (vp_in_nI (n := k) (N := 120) (by omega) (by decide)) dX10_put_32 (fun H locs hP hD hS => ?_)
          obtain ⟨f_163, ef_163⟩ : ∃ gg9 : Nat → Int32, gg9 = upd g (Int32.toNatClampNeg (nI (k))) (vp_nar .byte x_161) := ⟨_, rfl⟩
          have hPD : kPD dC dI A [(jM, .inr (10, [v0, .ref m1, v2, v3, v4, v5, .int (nI (k)), v7, v8, v9, v10, v11, v12, v13, v14, v15, v16, v17, v18, v19, v20, v21, v22, v23, v24, v25, v26, v27, v28, v29, v30, v31, v32, v33, v34, v35, v36, v37, v38, v39, v40, v41, v42, v43, v44, v45, v46, v47, v48, v49, v50, v51])), (m1, .inl (mc1, 120, .inl f_163))] H := by rw [ef_163]; exact ⟨hP, hD⟩
          obtain ⟨hP, hD⟩ := hPD
          refine lv_aload_n hx hb dX10_put_33 rfl (lv_at hl 1 rfl) ?_
          refine lv_dup hx hb dX10_put_34 rfl ?_
          refine va_get (D := (dC, dI)) (ci := 10) (v := .int (nI (k))) (C := RX10) (T := TX10) (N := 52) hx hb hts (fun _ h => List.mem_cons_of_mem _ (List.mem_append_right _ h)) hown hK hP 0 rfl rfl 6 kc_l_6_52 (hts (.fieldLink RX10 131 "NotEndedModel" "length" "I") (List.mem_cons_of_mem _ (List.mem_append_left _ (List.mem_of_getElem? (i := 1) rfl)))) (fun _ h9 => h9) rfl dX10_put_35 ?_
          refine lv_iconst (v := 1) hx hb dX10_put_38 kc_i_1 ?_
          refine lv_iadd hx hb dX10_put_39 ?_
          refine lv_topi (fun y_164 ey_164 => ?_)
          obtain rfl : y_164 = nI (k + 1) := ey_164.trans (nI_add (k) (1))
          refine va_put (D := (dC, dI)) (ci := 10) (v := .int (nI (k + 1))) (ty := tyX10 6) (C := RX10) (T := TX10) (N := 52) hx hb hts (fun _ h => List.mem_cons_of_mem _ (List.mem_append_right _ h)) tyX10 tyX10_ok nmX10 hown hK hP hD hS 0 rfl rfl 6 kc_l_6_52 (hts (.fieldLink RX10 131 "NotEndedModel" "length" "I") (List.mem_cons_of_mem _ (List.mem_append_left _ (List.mem_of_getElem? (i := 1) rfl)))) (fun _ h9 => h9) rfl (tyX10_ok 6 kc_l_6_52) rfl rfl (Nat.le_of_ble_eq_true rfl) dX10_put_40 (fun H locs hP hD hS => ?_)
          have hPD : kPD dC dI A [(jM, .inr (10, [v0, .ref m1, v2, v3, v4, v5, .int (nI (k + 1)), v7, v8, v9, v10, v11, v12, v13, v14, v15, v16, v17, v18, v19, v20, v21, v22, v23, v24, v25, v26, v27, v28, v29, v30, v31, v32, v33, v34, v35, v36, v37, v38, v39, v40, v41, v42, v43, v44, v45, v46, v47, v48, v49, v50, v51])), (m1, .inl (mc1, 120, .inl f_163))] H := ⟨hP, hD⟩
          obtain ⟨hP, hD⟩ := hPD
          refine lv_iinc (v := (-8)) hx hb dX10_put_43 hl (k := 0) rfl (by decide) kc_l_2_3 (kTo [(2, .int (-8)), (0, .ref jM), (1, .int p0)]) (fun ls hl => ?_)
          refine lv_goto (tgt := 3) hx hb dX10_put_46 kc_t_46_m43 ?_
          refine lv_iload_n hx hb dX10_put_3 rfl (lv_at hl 0 rfl) ?_
          refine lv_if_lt (tgt := 49) hx hb dX10_put_4 kc_t_4_45 (fun c_165 => ?_) (fun c_165 => absurd (by decide) c_165)
          have hk9 : kCnt p0 = 1 := by simp [kCnt, kC1, hy_4, hy_92, hy_136, hy_158, c_5, c_93, c_137, c_159]
          have hP9 : va_P (dC, dI) vwCl [(jM, .inr (10, [v0, .ref m1, v2, v3, v4, v5, .int (nI (k + kCnt p0)), v7, v8, v9, v10, v11, v12, v13, v14, v15, v16, v17, v18, v19, v20, v21, v22, v23, v24, v25, v26, v27, v28, v29, v30, v31, v32, v33, v34, v35, v36, v37, v38, v39, v40, v41, v42, v43, v44, v45, v46, v47, v48, v49, v50, v51])), (m1, .inl (mc1, 120, .inl f_163))] H := by rw [hk9]; exact hP.sub [0, 1] rfl
          have hD9 : va_D A [(jM, .inr (10, [v0, .ref m1, v2, v3, v4, v5, .int (nI (k + kCnt p0)), v7, v8, v9, v10, v11, v12, v13, v14, v15, v16, v17, v18, v19, v20, v21, v22, v23, v24, v25, v26, v27, v28, v29, v30, v31, v32, v33, v34, v35, v36, v37, v38, v39, v40, v41, v42, v43, v44, v45, v46, v47, v48, v49, v50, v51])), (m1, .inl (mc1, 120, .inl f_163))] := by rw [hk9]; exact hD.sub [0, 1] (by decide) rfl
          have hK9 := hK
          rw [hQ]
          exact W.vret hx hb hr (fun t ht hW => ⟨⟨(f_163, (kUpN bt k (kSn p0 0))), rfl, ⟨by rw [hk9]; unfold kPut; rw [kP1_z (k := 24) (hy_4.trans c_5), kP1_z (k := 16) (hy_92.trans c_93), kP1_z (k := 8) (hy_136.trans c_137), kP1_n (k := 0) (fun z => c_159 (hy_158.symm.trans z))], (kUpM (h := 0) (by omega) ef_163 ex_161 ex_160 hbm), (kUp8 hb8)⟩,  by rw [ht]; exact hP9, va_K.moved hW.alike hK9, hD9⟩, hS.F ht⟩) hS.2.2 dX10_put_49
        · refine lv_goto (tgt := 43) hx hb dX10_put_17 kc_t_17_26 ?_
          refine lv_iinc (v := (-8)) hx hb dX10_put_43 hl (k := 0) rfl (by decide) kc_l_2_3 (kTo [(2, .int (-8)), (0, .ref jM), (1, .int p0)]) (fun ls hl => ?_)
          refine lv_goto (tgt := 3) hx hb dX10_put_46 kc_t_46_m43 ?_
          refine lv_iload_n hx hb dX10_put_3 rfl (lv_at hl 0 rfl) ?_
          refine lv_if_lt (tgt := 49) hx hb dX10_put_4 kc_t_4_45 (fun c_166 => ?_) (fun c_166 => absurd (by decide) c_166)
          have hk9 : kCnt p0 = 0 := by simp [kCnt, kC1, hy_4, hy_92, hy_136, hy_158, c_5, c_93, c_137, c_159]
          have hP9 : va_P (dC, dI) vwCl [(jM, .inr (10, [v0, .ref m1, v2, v3, v4, v5, .int (nI (k + kCnt p0)), v7, v8, v9, v10, v11, v12, v13, v14, v15, v16, v17, v18, v19, v20, v21, v22, v23, v24, v25, v26, v27, v28, v29, v30, v31, v32, v33, v34, v35, v36, v37, v38, v39, v40, v41, v42, v43, v44, v45, v46, v47, v48, v49, v50, v51])), (m1, .inl (mc1, 120, .inl g))] s.heap := by rw [hk9]; exact hP.sub [0, 1] rfl
          have hD9 : va_D A [(jM, .inr (10, [v0, .ref m1, v2, v3, v4, v5, .int (nI (k + kCnt p0)), v7, v8, v9, v10, v11, v12, v13, v14, v15, v16, v17, v18, v19, v20, v21, v22, v23, v24, v25, v26, v27, v28, v29, v30, v31, v32, v33, v34, v35, v36, v37, v38, v39, v40, v41, v42, v43, v44, v45, v46, v47, v48, v49, v50, v51])), (m1, .inl (mc1, 120, .inl g))] := by rw [hk9]; exact hD.sub [0, 1] (by decide) rfl
          have hK9 := hK
          rw [hQ]
          exact W.vret hx hb hr (fun t ht hW => ⟨⟨(g, bt), rfl, ⟨by rw [hk9]; unfold kPut; rw [kP1_z (k := 24) (hy_4.trans c_5), kP1_z (k := 16) (hy_92.trans c_93), kP1_z (k := 8) (hy_136.trans c_137), kP1_z (k := 0) (hy_158.trans c_159)]; rfl, hbm, hb8⟩,  by rw [ht]; exact hP9, va_K.moved hW.alike hK9, hD9⟩, hS.F ht⟩) hS.2.2 dX10_put_49
