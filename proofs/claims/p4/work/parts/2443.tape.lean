def w_s_bytes8x : List Cond := .code yX8_bytesIn cX8_bytesIn 3 (some .int) :: ([])
theorem gw_s_bytes8x : (w_s_bytes8x).all goodWord = true := kGc rfl kGn
set_option maxHeartbeats 4000000 in
set_option maxRecDepth 100000 in
theorem s_bytes8x (l : Launch) (dC : Nat → ClassId) (dI : Nat → Nat → Nat) (p0 : Int32) : Met l yX8_bytesIn w_s_bytes8x ({ frames := 1, cells := 0, slots := 0, locals := 60 }) (kR dC dI [.int p0] [] [] kT) (vp_Si (fun r : Int32 => r = nI (kCnt p0))) 0 0 (fun _ => False) := by
  refine Met.ofW (cc := cX8_bytesIn) (maxL := 3) (ret := (some .int)) (by decide) rfl ?_
  intro p e s m args below meth c s₁ B hml hv
  obtain ⟨rfl, hP, hK, hX⟩ := hv
  have hx := B.exec
  have hb := B.bytes
  have hr := B.returns
  have hts := atoms_spec (ws := w_s_bytes8x) B.pre
  have hown : s.vm.findClass RX8 = some m.cls := findClass_of_methodNamed B.named
  have hlocks := B.notSynchronized
  have hP : va_P (dC, dI) vwCl [] s.heap := hP
  have hl := lv_entry ([.int p0]) (n := 3) (Nat.le_of_ble_eq_true rfl)
  rw [lg_entry_eq]
  generalize (lg_sl ([.int p0]) ++ List.replicate (3 - (lg_sl ([.int p0])).length) Slot.unset).toArray = ls at hl ⊢
  have hl : lv_has ls 3 [(0, .int p0)] := hl
  refine kQ (fun Q hQ => ?_)
  refine lv_iconst (v := 0) hx hb dX8_bytesIn_0 kc_i_0 ?_
  refine lv_istore_n hx hb dX8_bytesIn_1 rfl hl kc_l_1_3 (kTo [(1, .int 0), (0, .int p0)]) (fun ls hl => ?_)
  refine lv_bipush (v := 24) hx hb dX8_bytesIn_2 kc_b_24 ?_
  refine lv_istore_n hx hb dX8_bytesIn_4 rfl hl kc_l_2_3 (kTo [(2, .int 24), (1, .int 0), (0, .int p0)]) (fun ls hl => ?_)
  refine lv_iload_n hx hb dX8_bytesIn_5 rfl (lv_at hl 0 rfl) ?_
  refine lv_if_lt (tgt := 28) hx hb dX8_bytesIn_6 kc_t_6_22 (fun c_1 => absurd c_1 (by decide)) (fun c_1 => ?_)
  refine lv_iload_n hx hb dX8_bytesIn_9 rfl (lv_at hl 2 rfl) ?_
  refine lv_iload_n hx hb dX8_bytesIn_10 rfl (lv_at hl 0 rfl) ?_
  obtain ⟨x_2, ex_2⟩ : ∃ z : Int32, z = (Int32.toUInt32 p0 >>> (Int32.toUInt32 24 &&& Int32.toUInt32 31)).toInt32 := ⟨_, rfl⟩
  refine lv_iushr (v := x_2) hx hb dX8_bytesIn_11 ex_2.symm ?_
  refine lv_sipush (v := 255) hx hb dX8_bytesIn_12 kc_s_255 ?_
  refine lv_iand hx hb dX8_bytesIn_15 ?_
  refine lv_topi (fun x_3 ex_3 => ?_)
  have hy_4 : kS p0 24 = x_3 := by rw [ex_3, ex_2]; exact (kSu24 p0).symm
  refine lv_if_eq (tgt := 22) hx hb dX8_bytesIn_16 kc_t_16_6 (fun c_5 => ?_) (fun c_5 => ?_)
  · refine lv_iinc (v := 16) hx hb dX8_bytesIn_22 hl (k := 0) rfl (by decide) kc_l_2_3 (kTo [(2, .int 16), (1, .int 0), (0, .int p0)]) (fun ls hl => ?_)
    refine lv_goto (tgt := 5) hx hb dX8_bytesIn_25 kc_t_25_m20 ?_
    refine lv_iload_n hx hb dX8_bytesIn_5 rfl (lv_at hl 0 rfl) ?_
    refine lv_if_lt (tgt := 28) hx hb dX8_bytesIn_6 kc_t_6_22 (fun c_6 => absurd c_6 (by decide)) (fun c_6 => ?_)
    refine lv_iload_n hx hb dX8_bytesIn_9 rfl (lv_at hl 2 rfl) ?_
    refine lv_iload_n hx hb dX8_bytesIn_10 rfl (lv_at hl 0 rfl) ?_
    obtain ⟨x_7, ex_7⟩ : ∃ z : Int32, z = (Int32.toUInt32 p0 >>> (Int32.toUInt32 16 &&& Int32.toUInt32 31)).toInt32 := ⟨_, rfl⟩
    refine lv_iushr (v := x_7) hx hb dX8_bytesIn_11 ex_7.symm ?_
    refine lv_sipush (v := 255) hx hb dX8_bytesIn_12 kc_s_255 ?_
    refine lv_iand hx hb dX8_bytesIn_15 ?_
    refine lv_topi (fun x_8 ex_8 => ?_)
    have hy_9 : kS p0 16 = x_8 := by rw [ex_8, ex_7]; exact (kSu16 p0).symm
    refine lv_if_eq (tgt := 22) hx hb dX8_bytesIn_16 kc_t_16_6 (fun c_10 => ?_) (fun c_10 => ?_)
    · refine lv_iinc (v := 8) hx hb dX8_bytesIn_22 hl (k := 0) rfl (by decide) kc_l_2_3 (kTo [(2, .int 8), (1, .int 0), (0, .int p0)]) (fun ls hl => ?_)
      refine lv_goto (tgt := 5) hx hb dX8_bytesIn_25 kc_t_25_m20 ?_
      refine lv_iload_n hx hb dX8_bytesIn_5 rfl (lv_at hl 0 rfl) ?_
      refine lv_if_lt (tgt := 28) hx hb dX8_bytesIn_6 kc_t_6_22 (fun c_11 => absurd c_11 (by decide)) (fun c_11 => ?_)
      refine lv_iload_n hx hb dX8_bytesIn_9 rfl (lv_at hl 2 rfl) ?_
      refine lv_iload_n hx hb dX8_bytesIn_10 rfl (lv_at hl 0 rfl) ?_
      obtain ⟨x_12, ex_12⟩ : ∃ z : Int32, z = (Int32.toUInt32 p0 >>> (Int32.toUInt32 8 &&& Int32.toUInt32 31)).toInt32 := ⟨_, rfl⟩
      refine lv_iushr (v := x_12) hx hb dX8_bytesIn_11 ex_12.symm ?_
      refine lv_sipush (v := 255) hx hb dX8_bytesIn_12 kc_s_255 ?_
      refine lv_iand hx hb dX8_bytesIn_15 ?_
      refine lv_topi (fun x_13 ex_13 => ?_)
      have hy_14 : kS p0 8 = x_13 := by rw [ex_13, ex_12]; exact (kSu8 p0).symm
      refine lv_if_eq (tgt := 22) hx hb dX8_bytesIn_16 kc_t_16_6 (fun c_15 => ?_) (fun c_15 => ?_)
      · refine lv_iinc (v := 0) hx hb dX8_bytesIn_22 hl (k := 0) rfl (by decide) kc_l_2_3 (kTo [(2, .int 0), (1, .int 0), (0, .int p0)]) (fun ls hl => ?_)
        refine lv_goto (tgt := 5) hx hb dX8_bytesIn_25 kc_t_25_m20 ?_
        refine lv_iload_n hx hb dX8_bytesIn_5 rfl (lv_at hl 0 rfl) ?_
        refine lv_if_lt (tgt := 28) hx hb dX8_bytesIn_6 kc_t_6_22 (fun c_16 => absurd c_16 (by decide)) (fun c_16 => ?_)
        refine lv_iload_n hx hb dX8_bytesIn_9 rfl (lv_at hl 2 rfl) ?_
        refine lv_iload_n hx hb dX8_bytesIn_10 rfl (lv_at hl 0 rfl) ?_
        obtain ⟨x_17, ex_17⟩ : ∃ z : Int32, z = (Int32.toUInt32 p0 >>> (Int32.toUInt32 0 &&& Int32.toUInt32 31)).toInt32 := ⟨_, rfl⟩
        refine lv_iushr (v := x_17) hx hb dX8_bytesIn_11 ex_17.symm ?_
        refine lv_sipush (v := 255) hx hb dX8_bytesIn_12 kc_s_255 ?_
        refine lv_iand hx hb dX8_bytesIn_15 ?_
        refine lv_topi (fun x_18 ex_18 => ?_)
        have hy_19 : kS p0 0 = x_18 := by rw [ex_18, ex_17]; exact (kSu0 p0).symm
        refine lv_if_eq (tgt := 22) hx hb dX8_bytesIn_16 kc_t_16_6 (fun c_20 => ?_) (fun c_20 => ?_)
        · refine lv_iinc (v := (-8)) hx hb dX8_bytesIn_22 hl (k := 0) rfl (by decide) kc_l_2_3 (kTo [(2, .int (-8)), (1, .int 0), (0, .int p0)]) (fun ls hl => ?_)
          refine lv_goto (tgt := 5) hx hb dX8_bytesIn_25 kc_t_25_m20 ?_
          refine lv_iload_n hx hb dX8_bytesIn_5 rfl (lv_at hl 0 rfl) ?_
          refine lv_if_lt (tgt := 28) hx hb dX8_bytesIn_6 kc_t_6_22 (fun c_21 => ?_) (fun c_21 => absurd (by decide) c_21)
          refine lv_iload_n hx hb dX8_bytesIn_28 rfl (lv_at hl 1 rfl) ?_
          have hk : kCnt p0 = 0 := by simp [kCnt, kC1, hy_4, hy_9, hy_14, hy_19, c_5, c_10, c_15, c_20]
          rw [hQ]
          exact W.iret (v := 0) hx hb hr (fun t ht hW => ⟨0, rfl, (by rw [hk]; rfl), ht⟩) (fun _ h => nomatch h) dX8_bytesIn_29
        · refine lv_iinc (v := 1) hx hb dX8_bytesIn_19 hl (k := 1) rfl (by decide) kc_l_1_3 (kTo [(1, .int 1), (2, .int 0), (0, .int p0)]) (fun ls hl => ?_)
          refine lv_iinc (v := (-8)) hx hb dX8_bytesIn_22 hl (k := 1) rfl (by decide) kc_l_2_3 (kTo [(2, .int (-8)), (1, .int 1), (0, .int p0)]) (fun ls hl => ?_)
          refine lv_goto (tgt := 5) hx hb dX8_bytesIn_25 kc_t_25_m20 ?_
          refine lv_iload_n hx hb dX8_bytesIn_5 rfl (lv_at hl 0 rfl) ?_
          refine lv_if_lt (tgt := 28) hx hb dX8_bytesIn_6 kc_t_6_22 (fun c_22 => ?_) (fun c_22 => absurd (by decide) c_22)
          refine lv_iload_n hx hb dX8_bytesIn_28 rfl (lv_at hl 1 rfl) ?_
          have hk : kCnt p0 = 1 := by simp [kCnt, kC1, hy_4, hy_9, hy_14, hy_19, c_5, c_10, c_15, c_20]
          rw [hQ]
          exact W.iret (v := 1) hx hb hr (fun t ht hW => ⟨1, rfl, (by rw [hk]; rfl), ht⟩) (fun _ h => nomatch h) dX8_bytesIn_29
      · refine lv_iinc (v := 1) hx hb dX8_bytesIn_19 hl (k := 1) rfl (by decide) kc_l_1_3 (kTo [(1, .int 1), (2, .int 8), (0, .int p0)]) (fun ls hl => ?_)
        refine lv_iinc (v := 0) hx hb dX8_bytesIn_22 hl (k := 1) rfl (by decide) kc_l_2_3 (kTo [(2, .int 0), (1, .int 1), (0, .int p0)]) (fun ls hl => ?_)
        refine lv_goto (tgt := 5) hx hb dX8_bytesIn_25 kc_t_25_m20 ?_
        refine lv_iload_n hx hb dX8_bytesIn_5 rfl (lv_at hl 0 rfl) ?_
        refine lv_if_lt (tgt := 28) hx hb dX8_bytesIn_6 kc_t_6_22 (fun c_23 => absurd c_23 (by decide)) (fun c_23 => ?_)
        refine lv_iload_n hx hb dX8_bytesIn_9 rfl (lv_at hl 2 rfl) ?_
        refine lv_iload_n hx hb dX8_bytesIn_10 rfl (lv_at hl 0 rfl) ?_
        obtain ⟨x_24, ex_24⟩ : ∃ z : Int32, z = (Int32.toUInt32 p0 >>> (Int32.toUInt32 0 &&& Int32.toUInt32 31)).toInt32 := ⟨_, rfl⟩
        refine lv_iushr (v := x_24) hx hb dX8_bytesIn_11 ex_24.symm ?_
        refine lv_sipush (v := 255) hx hb dX8_bytesIn_12 kc_s_255 ?_
        refine lv_iand hx hb dX8_bytesIn_15 ?_
        refine lv_topi (fun x_25 ex_25 => ?_)
        have hy_26 : kS p0 0 = x_25 := by rw [ex_25, ex_24]; exact (kSu0 p0).symm
        refine lv_if_eq (tgt := 22) hx hb dX8_bytesIn_16 kc_t_16_6 (fun c_27 => ?_) (fun c_27 => ?_)
        · refine lv_iinc (v := (-8)) hx hb dX8_bytesIn_22 hl (k := 0) rfl (by decide) kc_l_2_3 (kTo [(2, .int (-8)), (1, .int 1), (0, .int p0)]) (fun ls hl => ?_)
          refine lv_goto (tgt := 5) hx hb dX8_bytesIn_25 kc_t_25_m20 ?_
          refine lv_iload_n hx hb dX8_bytesIn_5 rfl (lv_at hl 0 rfl) ?_
          refine lv_if_lt (tgt := 28) hx hb dX8_bytesIn_6 kc_t_6_22 (fun c_28 => ?_) (fun c_28 => absurd (by decide) c_28)
          refine lv_iload_n hx hb dX8_bytesIn_28 rfl (lv_at hl 1 rfl) ?_
          have hk : kCnt p0 = 1 := by simp [kCnt, kC1, hy_4, hy_9, hy_14, hy_26, c_5, c_10, c_15, c_27]
          rw [hQ]
          exact W.iret (v := 1) hx hb hr (fun t ht hW => ⟨1, rfl, (by rw [hk]; rfl), ht⟩) (fun _ h => nomatch h) dX8_bytesIn_29
        · refine lv_iinc (v := 2) hx hb dX8_bytesIn_19 hl (k := 1) rfl (by decide) kc_l_1_3 (kTo [(1, .int 2), (2, .int 0), (0, .int p0)]) (fun ls hl => ?_)
          refine lv_iinc (v := (-8)) hx hb dX8_bytesIn_22 hl (k := 1) rfl (by decide) kc_l_2_3 (kTo [(2, .int (-8)), (1, .int 2), (0, .int p0)]) (fun ls hl => ?_)
          refine lv_goto (tgt := 5) hx hb dX8_bytesIn_25 kc_t_25_m20 ?_
          refine lv_iload_n hx hb dX8_bytesIn_5 rfl (lv_at hl 0 rfl) ?_
          refine lv_if_lt (tgt := 28) hx hb dX8_bytesIn_6 kc_t_6_22 (fun c_29 => ?_) (fun c_29 => absurd (by decide) c_29)
          refine lv_iload_n hx hb dX8_bytesIn_28 rfl (lv_at hl 1 rfl) ?_
          have hk : kCnt p0 = 2 := by simp [kCnt, kC1, hy_4, hy_9, hy_14, hy_26, c_5, c_10, c_15, c_27]
          rw [hQ]
          exact W.iret (v := 2) hx hb hr (fun t ht hW => ⟨2, rfl, (by rw [hk]; rfl), ht⟩) (fun _ h => nomatch h) dX8_bytesIn_29
    · refine lv_iinc (v := 1) hx hb dX8_bytesIn_19 hl (k := 1) rfl (by decide) kc_l_1_3 (kTo [(1, .int 1), (2, .int 16), (0, .int p0)]) (fun ls hl => ?_)
      refine lv_iinc (v := 8) hx hb dX8_bytesIn_22 hl (k := 1) rfl (by decide) kc_l_2_3 (kTo [(2, .int 8), (1, .int 1), (0, .int p0)]) (fun ls hl => ?_)
      refine lv_goto (tgt := 5) hx hb dX8_bytesIn_25 kc_t_25_m20 ?_
      refine lv_iload_n hx hb dX8_bytesIn_5 rfl (lv_at hl 0 rfl) ?_
      refine lv_if_lt (tgt := 28) hx hb dX8_bytesIn_6 kc_t_6_22 (fun c_30 => absurd c_30 (by decide)) (fun c_30 => ?_)
      refine lv_iload_n hx hb dX8_bytesIn_9 rfl (lv_at hl 2 rfl) ?_
      refine lv_iload_n hx hb dX8_bytesIn_10 rfl (lv_at hl 0 rfl) ?_
      obtain ⟨x_31, ex_31⟩ : ∃ z : Int32, z = (Int32.toUInt32 p0 >>> (Int32.toUInt32 8 &&& Int32.toUInt32 31)).toInt32 := ⟨_, rfl⟩
      refine lv_iushr (v := x_31) hx hb dX8_bytesIn_11 ex_31.symm ?_
      refine lv_sipush (v := 255) hx hb dX8_bytesIn_12 kc_s_255 ?_
      refine lv_iand hx hb dX8_bytesIn_15 ?_
      refine lv_topi (fun x_32 ex_32 => ?_)
      have hy_33 : kS p0 8 = x_32 := by rw [ex_32, ex_31]; exact (kSu8 p0).symm
      refine lv_if_eq (tgt := 22) hx hb dX8_bytesIn_16 kc_t_16_6 (fun c_34 => ?_) (fun c_34 => ?_)
      · refine lv_iinc (v := 0) hx hb dX8_bytesIn_22 hl (k := 0) rfl (by decide) kc_l_2_3 (kTo [(2, .int 0), (1, .int 1), (0, .int p0)]) (fun ls hl => ?_)
        refine lv_goto (tgt := 5) hx hb dX8_bytesIn_25 kc_t_25_m20 ?_
        refine lv_iload_n hx hb dX8_bytesIn_5 rfl (lv_at hl 0 rfl) ?_
        refine lv_if_lt (tgt := 28) hx hb dX8_bytesIn_6 kc_t_6_22 (fun c_35 => absurd c_35 (by decide)) (fun c_35 => ?_)
        refine lv_iload_n hx hb dX8_bytesIn_9 rfl (lv_at hl 2 rfl) ?_
        refine lv_iload_n hx hb dX8_bytesIn_10 rfl (lv_at hl 0 rfl) ?_
        obtain ⟨x_36, ex_36⟩ : ∃ z : Int32, z = (Int32.toUInt32 p0 >>> (Int32.toUInt32 0 &&& Int32.toUInt32 31)).toInt32 := ⟨_, rfl⟩
        refine lv_iushr (v := x_36) hx hb dX8_bytesIn_11 ex_36.symm ?_
        refine lv_sipush (v := 255) hx hb dX8_bytesIn_12 kc_s_255 ?_
        refine lv_iand hx hb dX8_bytesIn_15 ?_
        refine lv_topi (fun x_37 ex_37 => ?_)
        have hy_38 : kS p0 0 = x_37 := by rw [ex_37, ex_36]; exact (kSu0 p0).symm
        refine lv_if_eq (tgt := 22) hx hb dX8_bytesIn_16 kc_t_16_6 (fun c_39 => ?_) (fun c_39 => ?_)
        · refine lv_iinc (v := (-8)) hx hb dX8_bytesIn_22 hl (k := 0) rfl (by decide) kc_l_2_3 (kTo [(2, .int (-8)), (1, .int 1), (0, .int p0)]) (fun ls hl => ?_)
          refine lv_goto (tgt := 5) hx hb dX8_bytesIn_25 kc_t_25_m20 ?_
          refine lv_iload_n hx hb dX8_bytesIn_5 rfl (lv_at hl 0 rfl) ?_
          refine lv_if_lt (tgt := 28) hx hb dX8_bytesIn_6 kc_t_6_22 (fun c_40 => ?_) (fun c_40 => absurd (by decide) c_40)
          refine lv_iload_n hx hb dX8_bytesIn_28 rfl (lv_at hl 1 rfl) ?_
          have hk : kCnt p0 = 1 := by simp [kCnt, kC1, hy_4, hy_9, hy_33, hy_38, c_5, c_10, c_34, c_39]
          rw [hQ]
          exact W.iret (v := 1) hx hb hr (fun t ht hW => ⟨1, rfl, (by rw [hk]; rfl), ht⟩) (fun _ h => nomatch h) dX8_bytesIn_29
        · refine lv_iinc (v := 2) hx hb dX8_bytesIn_19 hl (k := 1) rfl (by decide) kc_l_1_3 (kTo [(1, .int 2), (2, .int 0), (0, .int p0)]) (fun ls hl => ?_)
          refine lv_iinc (v := (-8)) hx hb dX8_bytesIn_22 hl (k := 1) rfl (by decide) kc_l_2_3 (kTo [(2, .int (-8)), (1, .int 2), (0, .int p0)]) (fun ls hl => ?_)
          refine lv_goto (tgt := 5) hx hb dX8_bytesIn_25 kc_t_25_m20 ?_
          refine lv_iload_n hx hb dX8_bytesIn_5 rfl (lv_at hl 0 rfl) ?_
          refine lv_if_lt (tgt := 28) hx hb dX8_bytesIn_6 kc_t_6_22 (fun c_41 => ?_) (fun c_41 => absurd (by decide) c_41)
          refine lv_iload_n hx hb dX8_bytesIn_28 rfl (lv_at hl 1 rfl) ?_
          have hk : kCnt p0 = 2 := by simp [kCnt, kC1, hy_4, hy_9, hy_33, hy_38, c_5, c_10, c_34, c_39]
          rw [hQ]
          exact W.iret (v := 2) hx hb hr (fun t ht hW => ⟨2, rfl, (by rw [hk]; rfl), ht⟩) (fun _ h => nomatch h) dX8_bytesIn_29
      · refine lv_iinc (v := 2) hx hb dX8_bytesIn_19 hl (k := 1) rfl (by decide) kc_l_1_3 (kTo [(1, .int 2), (2, .int 8), (0, .int p0)]) (fun ls hl => ?_)
        refine lv_iinc (v := 0) hx hb dX8_bytesIn_22 hl (k := 1) rfl (by decide) kc_l_2_3 (kTo [(2, .int 0), (1, .int 2), (0, .int p0)]) (fun ls hl => ?_)
        refine lv_goto (tgt := 5) hx hb dX8_bytesIn_25 kc_t_25_m20 ?_
        refine lv_iload_n hx hb dX8_bytesIn_5 rfl (lv_at hl 0 rfl) ?_
        refine lv_if_lt (tgt := 28) hx hb dX8_bytesIn_6 kc_t_6_22 (fun c_42 => absurd c_42 (by decide)) (fun c_42 => ?_)
        refine lv_iload_n hx hb dX8_bytesIn_9 rfl (lv_at hl 2 rfl) ?_
        refine lv_iload_n hx hb dX8_bytesIn_10 rfl (lv_at hl 0 rfl) ?_
        obtain ⟨x_43, ex_43⟩ : ∃ z : Int32, z = (Int32.toUInt32 p0 >>> (Int32.toUInt32 0 &&& Int32.toUInt32 31)).toInt32 := ⟨_, rfl⟩
        refine lv_iushr (v := x_43) hx hb dX8_bytesIn_11 ex_43.symm ?_
        refine lv_sipush (v := 255) hx hb dX8_bytesIn_12 kc_s_255 ?_
        refine lv_iand hx hb dX8_bytesIn_15 ?_
        refine lv_topi (fun x_44 ex_44 => ?_)
        have hy_45 : kS p0 0 = x_44 := by rw [ex_44, ex_43]; exact (kSu0 p0).symm
        refine lv_if_eq (tgt := 22) hx hb dX8_bytesIn_16 kc_t_16_6 (fun c_46 => ?_) (fun c_46 => ?_)
        · refine lv_iinc (v := (-8)) hx hb dX8_bytesIn_22 hl (k := 0) rfl (by decide) kc_l_2_3 (kTo [(2, .int (-8)), (1, .int 2), (0, .int p0)]) (fun ls hl => ?_)
          refine lv_goto (tgt := 5) hx hb dX8_bytesIn_25 kc_t_25_m20 ?_
          refine lv_iload_n hx hb dX8_bytesIn_5 rfl (lv_at hl 0 rfl) ?_
          refine lv_if_lt (tgt := 28) hx hb dX8_bytesIn_6 kc_t_6_22 (fun c_47 => ?_) (fun c_47 => absurd (by decide) c_47)
          refine lv_iload_n hx hb dX8_bytesIn_28 rfl (lv_at hl 1 rfl) ?_
          have hk : kCnt p0 = 2 := by simp [kCnt, kC1, hy_4, hy_9, hy_33, hy_45, c_5, c_10, c_34, c_46]
          rw [hQ]
          exact W.iret (v := 2) hx hb hr (fun t ht hW => ⟨2, rfl, (by rw [hk]; rfl), ht⟩) (fun _ h => nomatch h) dX8_bytesIn_29
        · refine lv_iinc (v := 3) hx hb dX8_bytesIn_19 hl (k := 1) rfl (by decide) kc_l_1_3 (kTo [(1, .int 3), (2, .int 0), (0, .int p0)]) (fun ls hl => ?_)
          refine lv_iinc (v := (-8)) hx hb dX8_bytesIn_22 hl (k := 1) rfl (by decide) kc_l_2_3 (kTo [(2, .int (-8)), (1, .int 3), (0, .int p0)]) (fun ls hl => ?_)
          refine lv_goto (tgt := 5) hx hb dX8_bytesIn_25 kc_t_25_m20 ?_
          refine lv_iload_n hx hb dX8_bytesIn_5 rfl (lv_at hl 0 rfl) ?_
          refine lv_if_lt (tgt := 28) hx hb dX8_bytesIn_6 kc_t_6_22 (fun c_48 => ?_) (fun c_48 => absurd (by decide) c_48)
          refine lv_iload_n hx hb dX8_bytesIn_28 rfl (lv_at hl 1 rfl) ?_
          have hk : kCnt p0 = 3 := by simp [kCnt, kC1, hy_4, hy_9, hy_33, hy_45, c_5, c_10, c_34, c_46]
          rw [hQ]
          exact W.iret (v := 3) hx hb hr (fun t ht hW => ⟨3, rfl, (by rw [hk]; rfl), ht⟩) (fun _ h => nomatch h) dX8_bytesIn_29
  · refine lv_iinc (v := 1) hx hb dX8_bytesIn_19 hl (k := 1) rfl (by decide) kc_l_1_3 (kTo [(1, .int 1), (2, .int 24), (0, .int p0)]) (fun ls hl => ?_)
    refine lv_iinc (v := 16) hx hb dX8_bytesIn_22 hl (k := 1) rfl (by decide) kc_l_2_3 (kTo [(2, .int 16), (1, .int 1), (0, .int p0)]) (fun ls hl => ?_)
    refine lv_goto (tgt := 5) hx hb dX8_bytesIn_25 kc_t_25_m20 ?_
    refine lv_iload_n hx hb dX8_bytesIn_5 rfl (lv_at hl 0 rfl) ?_
    refine lv_if_lt (tgt := 28) hx hb dX8_bytesIn_6 kc_t_6_22 (fun c_49 => absurd c_49 (by decide)) (fun c_49 => ?_)
    refine lv_iload_n hx hb dX8_bytesIn_9 rfl (lv_at hl 2 rfl) ?_
    refine lv_iload_n hx hb dX8_bytesIn_10 rfl (lv_at hl 0 rfl) ?_
    obtain ⟨x_50, ex_50⟩ : ∃ z : Int32, z = (Int32.toUInt32 p0 >>> (Int32.toUInt32 16 &&& Int32.toUInt32 31)).toInt32 := ⟨_, rfl⟩
    refine lv_iushr (v := x_50) hx hb dX8_bytesIn_11 ex_50.symm ?_
    refine lv_sipush (v := 255) hx hb dX8_bytesIn_12 kc_s_255 ?_
    refine lv_iand hx hb dX8_bytesIn_15 ?_
    refine lv_topi (fun x_51 ex_51 => ?_)
    have hy_52 : kS p0 16 = x_51 := by rw [ex_51, ex_50]; exact (kSu16 p0).symm
    refine lv_if_eq (tgt := 22) hx hb dX8_bytesIn_16 kc_t_16_6 (fun c_53 => ?_) (fun c_53 => ?_)
    · refine lv_iinc (v := 8) hx hb dX8_bytesIn_22 hl (k := 0) rfl (by decide) kc_l_2_3 (kTo [(2, .int 8), (1, .int 1), (0, .int p0)]) (fun ls hl => ?_)
      refine lv_goto (tgt := 5) hx hb dX8_bytesIn_25 kc_t_25_m20 ?_
      refine lv_iload_n hx hb dX8_bytesIn_5 rfl (lv_at hl 0 rfl) ?_
      refine lv_if_lt (tgt := 28) hx hb dX8_bytesIn_6 kc_t_6_22 (fun c_54 => absurd c_54 (by decide)) (fun c_54 => ?_)
      refine lv_iload_n hx hb dX8_bytesIn_9 rfl (lv_at hl 2 rfl) ?_
      refine lv_iload_n hx hb dX8_bytesIn_10 rfl (lv_at hl 0 rfl) ?_
      obtain ⟨x_55, ex_55⟩ : ∃ z : Int32, z = (Int32.toUInt32 p0 >>> (Int32.toUInt32 8 &&& Int32.toUInt32 31)).toInt32 := ⟨_, rfl⟩
      refine lv_iushr (v := x_55) hx hb dX8_bytesIn_11 ex_55.symm ?_
      refine lv_sipush (v := 255) hx hb dX8_bytesIn_12 kc_s_255 ?_
      refine lv_iand hx hb dX8_bytesIn_15 ?_
      refine lv_topi (fun x_56 ex_56 => ?_)
      have hy_57 : kS p0 8 = x_56 := by rw [ex_56, ex_55]; exact (kSu8 p0).symm
      refine lv_if_eq (tgt := 22) hx hb dX8_bytesIn_16 kc_t_16_6 (fun c_58 => ?_) (fun c_58 => ?_)
      · refine lv_iinc (v := 0) hx hb dX8_bytesIn_22 hl (k := 0) rfl (by decide) kc_l_2_3 (kTo [(2, .int 0), (1, .int 1), (0, .int p0)]) (fun ls hl => ?_)
        refine lv_goto (tgt := 5) hx hb dX8_bytesIn_25 kc_t_25_m20 ?_
        refine lv_iload_n hx hb dX8_bytesIn_5 rfl (lv_at hl 0 rfl) ?_
        refine lv_if_lt (tgt := 28) hx hb dX8_bytesIn_6 kc_t_6_22 (fun c_59 => absurd c_59 (by decide)) (fun c_59 => ?_)
        refine lv_iload_n hx hb dX8_bytesIn_9 rfl (lv_at hl 2 rfl) ?_
        refine lv_iload_n hx hb dX8_bytesIn_10 rfl (lv_at hl 0 rfl) ?_
        obtain ⟨x_60, ex_60⟩ : ∃ z : Int32, z = (Int32.toUInt32 p0 >>> (Int32.toUInt32 0 &&& Int32.toUInt32 31)).toInt32 := ⟨_, rfl⟩
        refine lv_iushr (v := x_60) hx hb dX8_bytesIn_11 ex_60.symm ?_
        refine lv_sipush (v := 255) hx hb dX8_bytesIn_12 kc_s_255 ?_
        refine lv_iand hx hb dX8_bytesIn_15 ?_
        refine lv_topi (fun x_61 ex_61 => ?_)
        have hy_62 : kS p0 0 = x_61 := by rw [ex_61, ex_60]; exact (kSu0 p0).symm
        refine lv_if_eq (tgt := 22) hx hb dX8_bytesIn_16 kc_t_16_6 (fun c_63 => ?_) (fun c_63 => ?_)
        · refine lv_iinc (v := (-8)) hx hb dX8_bytesIn_22 hl (k := 0) rfl (by decide) kc_l_2_3 (kTo [(2, .int (-8)), (1, .int 1), (0, .int p0)]) (fun ls hl => ?_)
          refine lv_goto (tgt := 5) hx hb dX8_bytesIn_25 kc_t_25_m20 ?_
          refine lv_iload_n hx hb dX8_bytesIn_5 rfl (lv_at hl 0 rfl) ?_
          refine lv_if_lt (tgt := 28) hx hb dX8_bytesIn_6 kc_t_6_22 (fun c_64 => ?_) (fun c_64 => absurd (by decide) c_64)
          refine lv_iload_n hx hb dX8_bytesIn_28 rfl (lv_at hl 1 rfl) ?_
          have hk : kCnt p0 = 1 := by simp [kCnt, kC1, hy_4, hy_52, hy_57, hy_62, c_5, c_53, c_58, c_63]
          rw [hQ]
          exact W.iret (v := 1) hx hb hr (fun t ht hW => ⟨1, rfl, (by rw [hk]; rfl), ht⟩) (fun _ h => nomatch h) dX8_bytesIn_29
        · refine lv_iinc (v := 2) hx hb dX8_bytesIn_19 hl (k := 1) rfl (by decide) kc_l_1_3 (kTo [(1, .int 2), (2, .int 0), (0, .int p0)]) (fun ls hl => ?_)
          refine lv_iinc (v := (-8)) hx hb dX8_bytesIn_22 hl (k := 1) rfl (by decide) kc_l_2_3 (kTo [(2, .int (-8)), (1, .int 2), (0, .int p0)]) (fun ls hl => ?_)
          refine lv_goto (tgt := 5) hx hb dX8_bytesIn_25 kc_t_25_m20 ?_
          refine lv_iload_n hx hb dX8_bytesIn_5 rfl (lv_at hl 0 rfl) ?_
          refine lv_if_lt (tgt := 28) hx hb dX8_bytesIn_6 kc_t_6_22 (fun c_65 => ?_) (fun c_65 => absurd (by decide) c_65)
          refine lv_iload_n hx hb dX8_bytesIn_28 rfl (lv_at hl 1 rfl) ?_
          have hk : kCnt p0 = 2 := by simp [kCnt, kC1, hy_4, hy_52, hy_57, hy_62, c_5, c_53, c_58, c_63]
          rw [hQ]
          exact W.iret (v := 2) hx hb hr (fun t ht hW => ⟨2, rfl, (by rw [hk]; rfl), ht⟩) (fun _ h => nomatch h) dX8_bytesIn_29
      · refine lv_iinc (v := 2) hx hb dX8_bytesIn_19 hl (k := 1) rfl (by decide) kc_l_1_3 (kTo [(1, .int 2), (2, .int 8), (0, .int p0)]) (fun ls hl => ?_)
        refine lv_iinc (v := 0) hx hb dX8_bytesIn_22 hl (k := 1) rfl (by decide) kc_l_2_3 (kTo [(2, .int 0), (1, .int 2), (0, .int p0)]) (fun ls hl => ?_)
        refine lv_goto (tgt := 5) hx hb dX8_bytesIn_25 kc_t_25_m20 ?_
        refine lv_iload_n hx hb dX8_bytesIn_5 rfl (lv_at hl 0 rfl) ?_
        refine lv_if_lt (tgt := 28) hx hb dX8_bytesIn_6 kc_t_6_22 (fun c_66 => absurd c_66 (by decide)) (fun c_66 => ?_)
        refine lv_iload_n hx hb dX8_bytesIn_9 rfl (lv_at hl 2 rfl) ?_
        refine lv_iload_n hx hb dX8_bytesIn_10 rfl (lv_at hl 0 rfl) ?_
        obtain ⟨x_67, ex_67⟩ : ∃ z : Int32, z = (Int32.toUInt32 p0 >>> (Int32.toUInt32 0 &&& Int32.toUInt32 31)).toInt32 := ⟨_, rfl⟩
        refine lv_iushr (v := x_67) hx hb dX8_bytesIn_11 ex_67.symm ?_
        refine lv_sipush (v := 255) hx hb dX8_bytesIn_12 kc_s_255 ?_
        refine lv_iand hx hb dX8_bytesIn_15 ?_
        refine lv_topi (fun x_68 ex_68 => ?_)
        have hy_69 : kS p0 0 = x_68 := by rw [ex_68, ex_67]; exact (kSu0 p0).symm
        refine lv_if_eq (tgt := 22) hx hb dX8_bytesIn_16 kc_t_16_6 (fun c_70 => ?_) (fun c_70 => ?_)
        · refine lv_iinc (v := (-8)) hx hb dX8_bytesIn_22 hl (k := 0) rfl (by decide) kc_l_2_3 (kTo [(2, .int (-8)), (1, .int 2), (0, .int p0)]) (fun ls hl => ?_)
          refine lv_goto (tgt := 5) hx hb dX8_bytesIn_25 kc_t_25_m20 ?_
          refine lv_iload_n hx hb dX8_bytesIn_5 rfl (lv_at hl 0 rfl) ?_
          refine lv_if_lt (tgt := 28) hx hb dX8_bytesIn_6 kc_t_6_22 (fun c_71 => ?_) (fun c_71 => absurd (by decide) c_71)
          refine lv_iload_n hx hb dX8_bytesIn_28 rfl (lv_at hl 1 rfl) ?_
          have hk : kCnt p0 = 2 := by simp [kCnt, kC1, hy_4, hy_52, hy_57, hy_69, c_5, c_53, c_58, c_70]
          rw [hQ]
          exact W.iret (v := 2) hx hb hr (fun t ht hW => ⟨2, rfl, (by rw [hk]; rfl), ht⟩) (fun _ h => nomatch h) dX8_bytesIn_29
        · refine lv_iinc (v := 3) hx hb dX8_bytesIn_19 hl (k := 1) rfl (by decide) kc_l_1_3 (kTo [(1, .int 3), (2, .int 0), (0, .int p0)]) (fun ls hl => ?_)
          refine lv_iinc (v := (-8)) hx hb dX8_bytesIn_22 hl (k := 1) rfl (by decide) kc_l_2_3 (kTo [(2, .int (-8)), (1, .int 3), (0, .int p0)]) (fun ls hl => ?_)
          refine lv_goto (tgt := 5) hx hb dX8_bytesIn_25 kc_t_25_m20 ?_
          refine lv_iload_n hx hb dX8_bytesIn_5 rfl (lv_at hl 0 rfl) ?_
          refine lv_if_lt (tgt := 28) hx hb dX8_bytesIn_6 kc_t_6_22 (fun c_72 => ?_) (fun c_72 => absurd (by decide) c_72)
          refine lv_iload_n hx hb dX8_bytesIn_28 rfl (lv_at hl 1 rfl) ?_
          have hk : kCnt p0 = 3 := by simp [kCnt, kC1, hy_4, hy_52, hy_57, hy_69, c_5, c_53, c_58, c_70]
          rw [hQ]
          exact W.iret (v := 3) hx hb hr (fun t ht hW => ⟨3, rfl, (by rw [hk]; rfl), ht⟩) (fun _ h => nomatch h) dX8_bytesIn_29
    · refine lv_iinc (v := 2) hx hb dX8_bytesIn_19 hl (k := 1) rfl (by decide) kc_l_1_3 (kTo [(1, .int 2), (2, .int 16), (0, .int p0)]) (fun ls hl => ?_)
      refine lv_iinc (v := 8) hx hb dX8_bytesIn_22 hl (k := 1) rfl (by decide) kc_l_2_3 (kTo [(2, .int 8), (1, .int 2), (0, .int p0)]) (fun ls hl => ?_)
      refine lv_goto (tgt := 5) hx hb dX8_bytesIn_25 kc_t_25_m20 ?_
      refine lv_iload_n hx hb dX8_bytesIn_5 rfl (lv_at hl 0 rfl) ?_
      refine lv_if_lt (tgt := 28) hx hb dX8_bytesIn_6 kc_t_6_22 (fun c_73 => absurd c_73 (by decide)) (fun c_73 => ?_)
      refine lv_iload_n hx hb dX8_bytesIn_9 rfl (lv_at hl 2 rfl) ?_
      refine lv_iload_n hx hb dX8_bytesIn_10 rfl (lv_at hl 0 rfl) ?_
      obtain ⟨x_74, ex_74⟩ : ∃ z : Int32, z = (Int32.toUInt32 p0 >>> (Int32.toUInt32 8 &&& Int32.toUInt32 31)).toInt32 := ⟨_, rfl⟩
      refine lv_iushr (v := x_74) hx hb dX8_bytesIn_11 ex_74.symm ?_
      refine lv_sipush (v := 255) hx hb dX8_bytesIn_12 kc_s_255 ?_
      refine lv_iand hx hb dX8_bytesIn_15 ?_
      refine lv_topi (fun x_75 ex_75 => ?_)
      have hy_76 : kS p0 8 = x_75 := by rw [ex_75, ex_74]; exact (kSu8 p0).symm
      refine lv_if_eq (tgt := 22) hx hb dX8_bytesIn_16 kc_t_16_6 (fun c_77 => ?_) (fun c_77 => ?_)
      · refine lv_iinc (v := 0) hx hb dX8_bytesIn_22 hl (k := 0) rfl (by decide) kc_l_2_3 (kTo [(2, .int 0), (1, .int 2), (0, .int p0)]) (fun ls hl => ?_)
        refine lv_goto (tgt := 5) hx hb dX8_bytesIn_25 kc_t_25_m20 ?_
        refine lv_iload_n hx hb dX8_bytesIn_5 rfl (lv_at hl 0 rfl) ?_
        refine lv_if_lt (tgt := 28) hx hb dX8_bytesIn_6 kc_t_6_22 (fun c_78 => absurd c_78 (by decide)) (fun c_78 => ?_)
        refine lv_iload_n hx hb dX8_bytesIn_9 rfl (lv_at hl 2 rfl) ?_
        refine lv_iload_n hx hb dX8_bytesIn_10 rfl (lv_at hl 0 rfl) ?_
        obtain ⟨x_79, ex_79⟩ : ∃ z : Int32, z = (Int32.toUInt32 p0 >>> (Int32.toUInt32 0 &&& Int32.toUInt32 31)).toInt32 := ⟨_, rfl⟩
        refine lv_iushr (v := x_79) hx hb dX8_bytesIn_11 ex_79.symm ?_
        refine lv_sipush (v := 255) hx hb dX8_bytesIn_12 kc_s_255 ?_
        refine lv_iand hx hb dX8_bytesIn_15 ?_
        refine lv_topi (fun x_80 ex_80 => ?_)
        have hy_81 : kS p0 0 = x_80 := by rw [ex_80, ex_79]; exact (kSu0 p0).symm
        refine lv_if_eq (tgt := 22) hx hb dX8_bytesIn_16 kc_t_16_6 (fun c_82 => ?_) (fun c_82 => ?_)
        · refine lv_iinc (v := (-8)) hx hb dX8_bytesIn_22 hl (k := 0) rfl (by decide) kc_l_2_3 (kTo [(2, .int (-8)), (1, .int 2), (0, .int p0)]) (fun ls hl => ?_)
          refine lv_goto (tgt := 5) hx hb dX8_bytesIn_25 kc_t_25_m20 ?_
          refine lv_iload_n hx hb dX8_bytesIn_5 rfl (lv_at hl 0 rfl) ?_
          refine lv_if_lt (tgt := 28) hx hb dX8_bytesIn_6 kc_t_6_22 (fun c_83 => ?_) (fun c_83 => absurd (by decide) c_83)
          refine lv_iload_n hx hb dX8_bytesIn_28 rfl (lv_at hl 1 rfl) ?_
          have hk : kCnt p0 = 2 := by simp [kCnt, kC1, hy_4, hy_52, hy_76, hy_81, c_5, c_53, c_77, c_82]
          rw [hQ]
          exact W.iret (v := 2) hx hb hr (fun t ht hW => ⟨2, rfl, (by rw [hk]; rfl), ht⟩) (fun _ h => nomatch h) dX8_bytesIn_29
        · refine lv_iinc (v := 3) hx hb dX8_bytesIn_19 hl (k := 1) rfl (by decide) kc_l_1_3 (kTo [(1, .int 3), (2, .int 0), (0, .int p0)]) (fun ls hl => ?_)
          refine lv_iinc (v := (-8)) hx hb dX8_bytesIn_22 hl (k := 1) rfl (by decide) kc_l_2_3 (kTo [(2, .int (-8)), (1, .int 3), (0, .int p0)]) (fun ls hl => ?_)
          refine lv_goto (tgt := 5) hx hb dX8_bytesIn_25 kc_t_25_m20 ?_
          refine lv_iload_n hx hb dX8_bytesIn_5 rfl (lv_at hl 0 rfl) ?_
          refine lv_if_lt (tgt := 28) hx hb dX8_bytesIn_6 kc_t_6_22 (fun c_84 => ?_) (fun c_84 => absurd (by decide) c_84)
          refine lv_iload_n hx hb dX8_bytesIn_28 rfl (lv_at hl 1 rfl) ?_
          have hk : kCnt p0 = 3 := by simp [kCnt, kC1, hy_4, hy_52, hy_76, hy_81, c_5, c_53, c_77, c_82]
          rw [hQ]
          exact W.iret (v := 3) hx hb hr (fun t ht hW => ⟨3, rfl, (by rw [hk]; rfl), ht⟩) (fun _ h => nomatch h) dX8_bytesIn_29
      · refine lv_iinc (v := 3) hx hb dX8_bytesIn_19 hl (k := 1) rfl (by decide) kc_l_1_3 (kTo [(1, .int 3), (2, .int 8), (0, .int p0)]) (fun ls hl => ?_)
        refine lv_iinc (v := 0) hx hb dX8_bytesIn_22 hl (k := 1) rfl (by decide) kc_l_2_3 (kTo [(2, .int 0), (1, .int 3), (0, .int p0)]) (fun ls hl => ?_)
        refine lv_goto (tgt := 5) hx hb dX8_bytesIn_25 kc_t_25_m20 ?_
        refine lv_iload_n hx hb dX8_bytesIn_5 rfl (lv_at hl 0 rfl) ?_
        refine lv_if_lt (tgt := 28) hx hb dX8_bytesIn_6 kc_t_6_22 (fun c_85 => absurd c_85 (by decide)) (fun c_85 => ?_)
        refine lv_iload_n hx hb dX8_bytesIn_9 rfl (lv_at hl 2 rfl) ?_
        refine lv_iload_n hx hb dX8_bytesIn_10 rfl (lv_at hl 0 rfl) ?_
        obtain ⟨x_86, ex_86⟩ : ∃ z : Int32, z = (Int32.toUInt32 p0 >>> (Int32.toUInt32 0 &&& Int32.toUInt32 31)).toInt32 := ⟨_, rfl⟩
        refine lv_iushr (v := x_86) hx hb dX8_bytesIn_11 ex_86.symm ?_
        refine lv_sipush (v := 255) hx hb dX8_bytesIn_12 kc_s_255 ?_
        refine lv_iand hx hb dX8_bytesIn_15 ?_
        refine lv_topi (fun x_87 ex_87 => ?_)
        have hy_88 : kS p0 0 = x_87 := by rw [ex_87, ex_86]; exact (kSu0 p0).symm
        refine lv_if_eq (tgt := 22) hx hb dX8_bytesIn_16 kc_t_16_6 (fun c_89 => ?_) (fun c_89 => ?_)
        · refine lv_iinc (v := (-8)) hx hb dX8_bytesIn_22 hl (k := 0) rfl (by decide) kc_l_2_3 (kTo [(2, .int (-8)), (1, .int 3), (0, .int p0)]) (fun ls hl => ?_)
          refine lv_goto (tgt := 5) hx hb dX8_bytesIn_25 kc_t_25_m20 ?_
          refine lv_iload_n hx hb dX8_bytesIn_5 rfl (lv_at hl 0 rfl) ?_
          refine lv_if_lt (tgt := 28) hx hb dX8_bytesIn_6 kc_t_6_22 (fun c_90 => ?_) (fun c_90 => absurd (by decide) c_90)
          refine lv_iload_n hx hb dX8_bytesIn_28 rfl (lv_at hl 1 rfl) ?_
          have hk : kCnt p0 = 3 := by simp [kCnt, kC1, hy_4, hy_52, hy_76, hy_88, c_5, c_53, c_77, c_89]
          rw [hQ]
          exact W.iret (v := 3) hx hb hr (fun t ht hW => ⟨3, rfl, (by rw [hk]; rfl), ht⟩) (fun _ h => nomatch h) dX8_bytesIn_29
        · refine lv_iinc (v := 4) hx hb dX8_bytesIn_19 hl (k := 1) rfl (by decide) kc_l_1_3 (kTo [(1, .int 4), (2, .int 0), (0, .int p0)]) (fun ls hl => ?_)
          refine lv_iinc (v := (-8)) hx hb dX8_bytesIn_22 hl (k := 1) rfl (by decide) kc_l_2_3 (kTo [(2, .int (-8)), (1, .int 4), (0, .int p0)]) (fun ls hl => ?_)
          refine lv_goto (tgt := 5) hx hb dX8_bytesIn_25 kc_t_25_m20 ?_
          refine lv_iload_n hx hb dX8_bytesIn_5 rfl (lv_at hl 0 rfl) ?_
          refine lv_if_lt (tgt := 28) hx hb dX8_bytesIn_6 kc_t_6_22 (fun c_91 => ?_) (fun c_91 => absurd (by decide) c_91)
          refine lv_iload_n hx hb dX8_bytesIn_28 rfl (lv_at hl 1 rfl) ?_
          have hk : kCnt p0 = 4 := by simp [kCnt, kC1, hy_4, hy_52, hy_76, hy_88, c_5, c_53, c_77, c_89]
          rw [hQ]
          exact W.iret (v := 4) hx hb hr (fun t ht hW => ⟨4, rfl, (by rw [hk]; rfl), ht⟩) (fun _ h => nomatch h) dX8_bytesIn_29

def w_s_append8x : List Cond := .code yX8_append cX8_append 4 none :: ([.fieldLink RX8 15 "NotEnded$Tape" "length" "I", .fieldLink RX8 9 "NotEnded$Tape" "signs" "[C"] ++ (wsX80))
theorem gw_s_append8x : (w_s_append8x).all goodWord = true := kGc rfl (kGa (by decide +kernel) gw_wsX80)
set_option maxHeartbeats 4000000 in
set_option maxRecDepth 100000 in
theorem s_append8x (l : Launch) (dC : Nat → ClassId) (dI : Nat → Nat → Nat) (jT : Nat) (t0 : Nat) (cC : ClassId) (gT : Nat → Int32) (kt : Nat) (hkt : kt ≤ 120) (bt : Nat → Nat) (hbt : ∀ j : Nat, gT j = nI (bt j)) (hb8 : ∀ j : Nat, bt j < 256) (p0 : Int32) (hk9 : kt + kCnt p0 ≤ 120) (sz : Nat) : Met l yX8_append w_s_append8x ({ frames := 1, cells := 0, slots := 0, locals := 60 }) (kW dC dI [.ref jT, .int p0] [(jT, .inr (8, [.ref t0, .int (nI (kt))])), (t0, .inl (cC, 120, .inl gT))] [(cC, .char)] kT sz) (va_Qv (fun (u : (Nat → Int32) × Nat × (Nat → Nat)) => match u with | (gU, ku, tU) => (kPut p0 (bt, kt) = (tU, ku) ∧ (∀ j : Nat, gU j = nI (tU j)) ∧ (∀ j : Nat, tU j < 256) ∧ ku = kt + kCnt p0)) (fun (u : (Nat → Int32) × Nat × (Nat → Nat)) => match u with | (gU, ku, tU) => fun t : State => kB dC dI [(jT, .inr (8, [.ref t0, .int (nI (ku))])), (t0, .inl (cC, 120, .inl gU))] [(cC, .char)] (va_A [(jT, .inr (8, [.ref t0, .int (nI (kt))])), (t0, .inl (cC, 120, .inl gT))] sz) t) (va_A [(jT, .inr (8, [.ref t0, .int (nI (kt))])), (t0, .inl (cC, 120, .inl gT))] sz)) 0 0 (va_A [(jT, .inr (8, [.ref t0, .int (nI (kt))])), (t0, .inl (cC, 120, .inl gT))] sz) := by
  refine Met.ofW (cc := cX8_append) (maxL := 4) (ret := none) (by decide) rfl ?_
  intro p e s m args below meth c s₁ B hml hv
  obtain ⟨rfl, hsz, hP, hK, hD0, hX⟩ := hv
  have hx := B.exec
  have hb := B.bytes
  have hr := B.returns
  have hts := atoms_spec (ws := w_s_append8x) B.pre
  have hown : s.vm.findClass RX8 = some m.cls := findClass_of_methodNamed B.named
  have hlocks := B.notSynchronized
  subst hsz
  have hD := hD0.self (sz := s.heap.size)
  generalize hAe : va_A [(jT, .inr (8, [.ref t0, .int (nI (kt))])), (t0, .inl (cC, 120, .inl gT))] s.heap.size = A at hD ⊢
  have hA : ∀ q : Nat, s.heap.size ≤ q → A q := fun q h => by rw [← hAe]; exact Or.inr h
  have hS : va_S A s.heap s.heap [] := va_S.rf
  have hP : va_P (dC, dI) vwCl [(jT, .inr (8, [.ref t0, .int (nI (kt))])), (t0, .inl (cC, 120, .inl gT))] s.heap := hP
  have hl := lv_entry ([.ref jT, .int p0]) (n := 4) (Nat.le_of_ble_eq_true rfl)
  rw [lg_entry_eq]
  generalize (lg_sl ([.ref jT, .int p0]) ++ List.replicate (4 - (lg_sl ([.ref jT, .int p0])).length) Slot.unset).toArray = ls at hl ⊢
  have hl : lv_has ls 4 [(0, .ref jT), (1, .int p0)] := hl
  refine kQ (fun Q hQ => ?_)
  have hu9 : kCnt p0 = kC1 p0 24 + kC1 p0 16 + kC1 p0 8 + kC1 p0 0 := rfl
  refine lv_bipush (v := 24) hx hb dX8_append_0 kc_b_24 ?_
  refine lv_istore_n hx hb dX8_append_2 rfl hl kc_l_2_4 (kTo [(2, .int 24), (0, .ref jT), (1, .int p0)]) (fun ls hl => ?_)
  refine lv_iload_n hx hb dX8_append_3 rfl (lv_at hl 0 rfl) ?_
  refine lv_if_lt (tgt := 58) hx hb dX8_append_4 kc_t_4_54 (fun c_1 => absurd c_1 (by decide)) (fun c_1 => ?_)
  refine lv_iload_n hx hb dX8_append_7 rfl (lv_at hl 2 rfl) ?_
  refine lv_iload_n hx hb dX8_append_8 rfl (lv_at hl 0 rfl) ?_
  obtain ⟨x_2, ex_2⟩ : ∃ z : Int32, z = (Int32.toUInt32 p0 >>> (Int32.toUInt32 24 &&& Int32.toUInt32 31)).toInt32 := ⟨_, rfl⟩
  refine lv_iushr (v := x_2) hx hb dX8_append_9 ex_2.symm ?_
  refine lv_sipush (v := 255) hx hb dX8_append_10 kc_s_255 ?_
  refine lv_iand hx hb dX8_append_13 ?_
  refine lv_topi (fun x_3 ex_3 => ?_)
  refine lv_istore_n hx hb dX8_append_14 rfl hl kc_l_3_4 (kTo [(3, .int x_3), (2, .int 24), (0, .ref jT), (1, .int p0)]) (fun ls hl => ?_)
  refine lv_iload_n hx hb dX8_append_15 rfl (lv_at hl 0 rfl) ?_
  have hy_4 : kS p0 24 = x_3 := by rw [ex_3, ex_2]; exact (kSu24 p0).symm
  refine lv_if_eq (tgt := 52) hx hb dX8_append_16 kc_t_16_36 (fun c_5 => ?_) (fun c_5 => ?_)
  · refine lv_iinc (v := 16) hx hb dX8_append_52 hl (k := 1) rfl (by decide) kc_l_2_4 (kTo [(2, .int 16), (3, .int x_3), (0, .ref jT), (1, .int p0)]) (fun ls hl => ?_)
    refine lv_goto (tgt := 3) hx hb dX8_append_55 kc_t_55_m52 ?_
    refine lv_iload_n hx hb dX8_append_3 rfl (lv_at hl 0 rfl) ?_
    refine lv_if_lt (tgt := 58) hx hb dX8_append_4 kc_t_4_54 (fun c_6 => absurd c_6 (by decide)) (fun c_6 => ?_)
    refine lv_iload_n hx hb dX8_append_7 rfl (lv_at hl 3 rfl) ?_
    refine lv_iload_n hx hb dX8_append_8 rfl (lv_at hl 0 rfl) ?_
    obtain ⟨x_7, ex_7⟩ : ∃ z : Int32, z = (Int32.toUInt32 p0 >>> (Int32.toUInt32 16 &&& Int32.toUInt32 31)).toInt32 := ⟨_, rfl⟩
    refine lv_iushr (v := x_7) hx hb dX8_append_9 ex_7.symm ?_
    refine lv_sipush (v := 255) hx hb dX8_append_10 kc_s_255 ?_
    refine lv_iand hx hb dX8_append_13 ?_
    refine lv_topi (fun x_8 ex_8 => ?_)
    refine lv_istore_n hx hb dX8_append_14 rfl hl kc_l_3_4 (kTo [(3, .int x_8), (2, .int 16), (0, .ref jT), (1, .int p0)]) (fun ls hl => ?_)
    refine lv_iload_n hx hb dX8_append_15 rfl (lv_at hl 0 rfl) ?_
    have hy_9 : kS p0 16 = x_8 := by rw [ex_8, ex_7]; exact (kSu16 p0).symm
    refine lv_if_eq (tgt := 52) hx hb dX8_append_16 kc_t_16_36 (fun c_10 => ?_) (fun c_10 => ?_)
    · refine lv_iinc (v := 8) hx hb dX8_append_52 hl (k := 1) rfl (by decide) kc_l_2_4 (kTo [(2, .int 8), (3, .int x_8), (0, .ref jT), (1, .int p0)]) (fun ls hl => ?_)
      refine lv_goto (tgt := 3) hx hb dX8_append_55 kc_t_55_m52 ?_
      refine lv_iload_n hx hb dX8_append_3 rfl (lv_at hl 0 rfl) ?_
      refine lv_if_lt (tgt := 58) hx hb dX8_append_4 kc_t_4_54 (fun c_11 => absurd c_11 (by decide)) (fun c_11 => ?_)
      refine lv_iload_n hx hb dX8_append_7 rfl (lv_at hl 3 rfl) ?_
      refine lv_iload_n hx hb dX8_append_8 rfl (lv_at hl 0 rfl) ?_
      obtain ⟨x_12, ex_12⟩ : ∃ z : Int32, z = (Int32.toUInt32 p0 >>> (Int32.toUInt32 8 &&& Int32.toUInt32 31)).toInt32 := ⟨_, rfl⟩
      refine lv_iushr (v := x_12) hx hb dX8_append_9 ex_12.symm ?_
      refine lv_sipush (v := 255) hx hb dX8_append_10 kc_s_255 ?_
      refine lv_iand hx hb dX8_append_13 ?_
      refine lv_topi (fun x_13 ex_13 => ?_)
      refine lv_istore_n hx hb dX8_append_14 rfl hl kc_l_3_4 (kTo [(3, .int x_13), (2, .int 8), (0, .ref jT), (1, .int p0)]) (fun ls hl => ?_)
      refine lv_iload_n hx hb dX8_append_15 rfl (lv_at hl 0 rfl) ?_
      have hy_14 : kS p0 8 = x_13 := by rw [ex_13, ex_12]; exact (kSu8 p0).symm
      refine lv_if_eq (tgt := 52) hx hb dX8_append_16 kc_t_16_36 (fun c_15 => ?_) (fun c_15 => ?_)
      · refine lv_iinc (v := 0) hx hb dX8_append_52 hl (k := 1) rfl (by decide) kc_l_2_4 (kTo [(2, .int 0), (3, .int x_13), (0, .ref jT), (1, .int p0)]) (fun ls hl => ?_)
        refine lv_goto (tgt := 3) hx hb dX8_append_55 kc_t_55_m52 ?_
        refine lv_iload_n hx hb dX8_append_3 rfl (lv_at hl 0 rfl) ?_
        refine lv_if_lt (tgt := 58) hx hb dX8_append_4 kc_t_4_54 (fun c_16 => absurd c_16 (by decide)) (fun c_16 => ?_)
        refine lv_iload_n hx hb dX8_append_7 rfl (lv_at hl 3 rfl) ?_
        refine lv_iload_n hx hb dX8_append_8 rfl (lv_at hl 0 rfl) ?_
        obtain ⟨x_17, ex_17⟩ : ∃ z : Int32, z = (Int32.toUInt32 p0 >>> (Int32.toUInt32 0 &&& Int32.toUInt32 31)).toInt32 := ⟨_, rfl⟩
        refine lv_iushr (v := x_17) hx hb dX8_append_9 ex_17.symm ?_
        refine lv_sipush (v := 255) hx hb dX8_append_10 kc_s_255 ?_
        refine lv_iand hx hb dX8_append_13 ?_
        refine lv_topi (fun x_18 ex_18 => ?_)
        refine lv_istore_n hx hb dX8_append_14 rfl hl kc_l_3_4 (kTo [(3, .int x_18), (2, .int 0), (0, .ref jT), (1, .int p0)]) (fun ls hl => ?_)
        refine lv_iload_n hx hb dX8_append_15 rfl (lv_at hl 0 rfl) ?_
        have hy_19 : kS p0 0 = x_18 := by rw [ex_18, ex_17]; exact (kSu0 p0).symm
        refine lv_if_eq (tgt := 52) hx hb dX8_append_16 kc_t_16_36 (fun c_20 => ?_) (fun c_20 => ?_)
        · refine lv_iinc (v := (-8)) hx hb dX8_append_52 hl (k := 1) rfl (by decide) kc_l_2_4 (kTo [(2, .int (-8)), (3, .int x_18), (0, .ref jT), (1, .int p0)]) (fun ls hl => ?_)
          refine lv_goto (tgt := 3) hx hb dX8_append_55 kc_t_55_m52 ?_
          refine lv_iload_n hx hb dX8_append_3 rfl (lv_at hl 0 rfl) ?_
          refine lv_if_lt (tgt := 58) hx hb dX8_append_4 kc_t_4_54 (fun c_21 => ?_) (fun c_21 => absurd (by decide) c_21)
          have hk8 : kCnt p0 = 0 := by simp [kCnt, kC1, hy_4, hy_9, hy_14, hy_19, c_5, c_10, c_15, c_20]
          have hP9 := hP
          have hD9 := hD
          have hK9 := hK
          rw [hQ]
          exact W.vret hx hb hr (fun t ht hW => ⟨⟨(gT, kt, bt), rfl, ⟨by unfold kPut; rw [kP1_z (k := 24) (hy_4.trans c_5), kP1_z (k := 16) (hy_9.trans c_10), kP1_z (k := 8) (hy_14.trans c_15), kP1_z (k := 0) (hy_19.trans c_20)], hbt, hb8, by omega⟩,  by rw [ht]; exact hP9, va_K.moved hW.alike hK9, hD9⟩, hS.F ht⟩) hS.2.2 dX8_append_58
        · refine lv_aload_n hx hb dX8_append_19 rfl (lv_at hl 2 rfl) ?_
          refine va_get (D := (dC, dI)) (ci := 8) (v := .int (nI (kt))) (C := RX8) (T := TX8) (N := 2) hx hb hts (fun _ h => List.mem_cons_of_mem _ (List.mem_append_right _ h)) hown hK hP 0 rfl rfl 1 kc_l_1_2 (hts (.fieldLink RX8 15 "NotEnded$Tape" "length" "I") (List.mem_cons_of_mem _ (List.mem_append_left _ (List.mem_of_getElem? (i := 0) rfl)))) (fun _ h9 => h9) rfl dX8_append_20 ?_
          refine lv_aload_n hx hb dX8_append_23 rfl (lv_at hl 2 rfl) ?_
          refine va_get (D := (dC, dI)) (ci := 8) (v := .ref t0) (C := RX8) (T := TX8) (N := 2) hx hb hts (fun _ h => List.mem_cons_of_mem _ (List.mem_append_right _ h)) hown hK hP 0 rfl rfl 0 kc_l_0_2 (hts (.fieldLink RX8 9 "NotEnded$Tape" "signs" "[C") (List.mem_cons_of_mem _ (List.mem_append_left _ (List.mem_of_getElem? (i := 1) rfl)))) (fun _ h9 => h9) rfl dX8_append_24 ?_
          refine va_alen hx hb hK hP 1 0 rfl rfl (v := 120) rfl dX8_append_27 ?_
          have hy_19_c : kC1 p0 0 = 1 := by simp [kC1, hy_19, c_20]
          refine lv_icmp_ge (tgt := 52) hx hb dX8_append_28 kc_t_28_24 (fun c_22 => absurd c_22 (nI_ge (a := kt) (b := 120) (by omega) (by decide))) (fun c_22 => ?_)
          refine lv_aload_n hx hb dX8_append_31 rfl (lv_at hl 2 rfl) ?_
          refine va_get (D := (dC, dI)) (ci := 8) (v := .ref t0) (C := RX8) (T := TX8) (N := 2) hx hb hts (fun _ h => List.mem_cons_of_mem _ (List.mem_append_right _ h)) hown hK hP 0 rfl rfl 0 kc_l_0_2 (hts (.fieldLink RX8 9 "NotEnded$Tape" "signs" "[C") (List.mem_cons_of_mem _ (List.mem_append_left _ (List.mem_of_getElem? (i := 1) rfl)))) (fun _ h9 => h9) rfl dX8_append_32 ?_
          refine lv_aload_n hx hb dX8_append_35 rfl (lv_at hl 2 rfl) ?_
          refine va_get (D := (dC, dI)) (ci := 8) (v := .int (nI (kt))) (C := RX8) (T := TX8) (N := 2) hx hb hts (fun _ h => List.mem_cons_of_mem _ (List.mem_append_right _ h)) hown hK hP 0 rfl rfl 1 kc_l_1_2 (hts (.fieldLink RX8 15 "NotEnded$Tape" "length" "I") (List.mem_cons_of_mem _ (List.mem_append_left _ (List.mem_of_getElem? (i := 0) rfl)))) (fun _ h9 => h9) rfl dX8_append_36 ?_
          refine lv_iload_n hx hb dX8_append_39 rfl (lv_at hl 0 rfl) ?_
          obtain ⟨x_23, ex_23⟩ : ∃ z : Int32, z = (Int32.toUInt32 x_18 % 65536).toInt32 := ⟨_, rfl⟩
          refine lv_i2c (v := x_23) hx hb dX8_append_40 ex_23.symm ?_
          have bd_25 : kt < 120 := by omega
          refine va_cast hx hb hK hP hD hS 1 0 rfl rfl (vp_in_nI (n := kt) (N := 120) bd_25 kc_31_120) dX8_append_41 (fun H locs hP hD hS => ?_)
          obtain ⟨f_24, ef_24⟩ : ∃ gg9 : Nat → Int32, gg9 = upd gT (Int32.toNatClampNeg (nI (kt))) (vp_nar .char x_23) := ⟨_, rfl⟩
          have hPD : kPD dC dI A [(jT, .inr (8, [.ref t0, .int (nI (kt))])), (t0, .inl (cC, 120, .inl f_24))] H := by rw [ef_24]; exact ⟨hP, hD⟩
          have hP := hPD.1
          have hD := hPD.2
          refine lv_aload_n hx hb dX8_append_42 rfl (lv_at hl 2 rfl) ?_
          refine lv_dup hx hb dX8_append_43 rfl ?_
          refine va_get (D := (dC, dI)) (ci := 8) (v := .int (nI (kt))) (C := RX8) (T := TX8) (N := 2) hx hb hts (fun _ h => List.mem_cons_of_mem _ (List.mem_append_right _ h)) hown hK hP 0 rfl rfl 1 kc_l_1_2 (hts (.fieldLink RX8 15 "NotEnded$Tape" "length" "I") (List.mem_cons_of_mem _ (List.mem_append_left _ (List.mem_of_getElem? (i := 0) rfl)))) (fun _ h9 => h9) rfl dX8_append_44 ?_
          refine lv_iconst (v := 1) hx hb dX8_append_47 kc_i_1 ?_
          refine lv_iadd hx hb dX8_append_48 ?_
          refine lv_topi (fun y_26 ey_26 => ?_)
          obtain rfl : y_26 = nI (kt + 1) := ey_26.trans (nI_add (kt) (1))
          refine va_put (D := (dC, dI)) (ci := 8) (v := .int (nI (kt + 1))) (ty := tyX8 1) (C := RX8) (T := TX8) (N := 2) hx hb hts (fun _ h => List.mem_cons_of_mem _ (List.mem_append_right _ h)) tyX8 tyX8_ok nmX8 hown hK hP hD hS 0 rfl rfl 1 kc_l_1_2 (hts (.fieldLink RX8 15 "NotEnded$Tape" "length" "I") (List.mem_cons_of_mem _ (List.mem_append_left _ (List.mem_of_getElem? (i := 0) rfl)))) (fun _ h9 => h9) rfl (tyX8_ok 1 kc_l_1_2) rfl rfl (Nat.le_of_ble_eq_true rfl) dX8_append_49 (fun H locs hP hD hS => ?_)
          have hPD : kPD dC dI A [(jT, .inr (8, [.ref t0, .int (nI (kt + 1))])), (t0, .inl (cC, 120, .inl f_24))] H := ⟨hP, hD⟩
          have hP := hPD.1
          have hD := hPD.2
          refine lv_iinc (v := (-8)) hx hb dX8_append_52 hl (k := 1) rfl (by decide) kc_l_2_4 (kTo [(2, .int (-8)), (3, .int x_18), (0, .ref jT), (1, .int p0)]) (fun ls hl => ?_)
          refine lv_goto (tgt := 3) hx hb dX8_append_55 kc_t_55_m52 ?_
          refine lv_iload_n hx hb dX8_append_3 rfl (lv_at hl 0 rfl) ?_
          refine lv_if_lt (tgt := 58) hx hb dX8_append_4 kc_t_4_54 (fun c_27 => ?_) (fun c_27 => absurd (by decide) c_27)
          have hk8 : kCnt p0 = 1 := by simp [kCnt, kC1, hy_4, hy_9, hy_14, hy_19, c_5, c_10, c_15, c_20]
          have hP9 := hP
          have hD9 := hD
          have hK9 := hK
          rw [hQ]
          exact W.vret hx hb hr (fun t ht hW => ⟨⟨(f_24, (kt + 1), (kUpN bt kt (kSn p0 0))), rfl, ⟨by unfold kPut; rw [kP1_z (k := 24) (hy_4.trans c_5), kP1_z (k := 16) (hy_9.trans c_10), kP1_z (k := 8) (hy_14.trans c_15), kP1_n (k := 0) (fun z => c_20 (hy_19.symm.trans z))], (kUpB (by omega) ef_24 ex_23 hy_19 hbt), (kUp8 hb8), by omega⟩,  by rw [ht]; exact hP9, va_K.moved hW.alike hK9, hD9⟩, hS.F ht⟩) hS.2.2 dX8_append_58
      · refine lv_aload_n hx hb dX8_append_19 rfl (lv_at hl 2 rfl) ?_
        refine va_get (D := (dC, dI)) (ci := 8) (v := .int (nI (kt))) (C := RX8) (T := TX8) (N := 2) hx hb hts (fun _ h => List.mem_cons_of_mem _ (List.mem_append_right _ h)) hown hK hP 0 rfl rfl 1 kc_l_1_2 (hts (.fieldLink RX8 15 "NotEnded$Tape" "length" "I") (List.mem_cons_of_mem _ (List.mem_append_left _ (List.mem_of_getElem? (i := 0) rfl)))) (fun _ h9 => h9) rfl dX8_append_20 ?_
        refine lv_aload_n hx hb dX8_append_23 rfl (lv_at hl 2 rfl) ?_
        refine va_get (D := (dC, dI)) (ci := 8) (v := .ref t0) (C := RX8) (T := TX8) (N := 2) hx hb hts (fun _ h => List.mem_cons_of_mem _ (List.mem_append_right _ h)) hown hK hP 0 rfl rfl 0 kc_l_0_2 (hts (.fieldLink RX8 9 "NotEnded$Tape" "signs" "[C") (List.mem_cons_of_mem _ (List.mem_append_left _ (List.mem_of_getElem? (i := 1) rfl)))) (fun _ h9 => h9) rfl dX8_append_24 ?_
        refine va_alen hx hb hK hP 1 0 rfl rfl (v := 120) rfl dX8_append_27 ?_
        have hy_14_c : kC1 p0 8 = 1 := by simp [kC1, hy_14, c_15]
        refine lv_icmp_ge (tgt := 52) hx hb dX8_append_28 kc_t_28_24 (fun c_28 => absurd c_28 (nI_ge (a := kt) (b := 120) (by omega) (by decide))) (fun c_28 => ?_)
        refine lv_aload_n hx hb dX8_append_31 rfl (lv_at hl 2 rfl) ?_
        refine va_get (D := (dC, dI)) (ci := 8) (v := .ref t0) (C := RX8) (T := TX8) (N := 2) hx hb hts (fun _ h => List.mem_cons_of_mem _ (List.mem_append_right _ h)) hown hK hP 0 rfl rfl 0 kc_l_0_2 (hts (.fieldLink RX8 9 "NotEnded$Tape" "signs" "[C") (List.mem_cons_of_mem _ (List.mem_append_left _ (List.mem_of_getElem? (i := 1) rfl)))) (fun _ h9 => h9) rfl dX8_append_32 ?_
        refine lv_aload_n hx hb dX8_append_35 rfl (lv_at hl 2 rfl) ?_
        refine va_get (D := (dC, dI)) (ci := 8) (v := .int (nI (kt))) (C := RX8) (T := TX8) (N := 2) hx hb hts (fun _ h => List.mem_cons_of_mem _ (List.mem_append_right _ h)) hown hK hP 0 rfl rfl 1 kc_l_1_2 (hts (.fieldLink RX8 15 "NotEnded$Tape" "length" "I") (List.mem_cons_of_mem _ (List.mem_append_left _ (List.mem_of_getElem? (i := 0) rfl)))) (fun _ h9 => h9) rfl dX8_append_36 ?_
        refine lv_iload_n hx hb dX8_append_39 rfl (lv_at hl 0 rfl) ?_
        obtain ⟨x_29, ex_29⟩ : ∃ z : Int32, z = (Int32.toUInt32 x_13 % 65536).toInt32 := ⟨_, rfl⟩
        refine lv_i2c (v := x_29) hx hb dX8_append_40 ex_29.symm ?_
        have bd_31 : kt < 120 := by omega
        refine va_cast hx hb hK hP hD hS 1 0 rfl rfl (vp_in_nI (n := kt) (N := 120) bd_31 kc_31_120) dX8_append_41 (fun H locs hP hD hS => ?_)
        obtain ⟨f_30, ef_30⟩ : ∃ gg9 : Nat → Int32, gg9 = upd gT (Int32.toNatClampNeg (nI (kt))) (vp_nar .char x_29) := ⟨_, rfl⟩
        have hPD : kPD dC dI A [(jT, .inr (8, [.ref t0, .int (nI (kt))])), (t0, .inl (cC, 120, .inl f_30))] H := by rw [ef_30]; exact ⟨hP, hD⟩
        have hP := hPD.1
        have hD := hPD.2
        refine lv_aload_n hx hb dX8_append_42 rfl (lv_at hl 2 rfl) ?_
        refine lv_dup hx hb dX8_append_43 rfl ?_
        refine va_get (D := (dC, dI)) (ci := 8) (v := .int (nI (kt))) (C := RX8) (T := TX8) (N := 2) hx hb hts (fun _ h => List.mem_cons_of_mem _ (List.mem_append_right _ h)) hown hK hP 0 rfl rfl 1 kc_l_1_2 (hts (.fieldLink RX8 15 "NotEnded$Tape" "length" "I") (List.mem_cons_of_mem _ (List.mem_append_left _ (List.mem_of_getElem? (i := 0) rfl)))) (fun _ h9 => h9) rfl dX8_append_44 ?_
        refine lv_iconst (v := 1) hx hb dX8_append_47 kc_i_1 ?_
        refine lv_iadd hx hb dX8_append_48 ?_
        refine lv_topi (fun y_32 ey_32 => ?_)
        obtain rfl : y_32 = nI (kt + 1) := ey_32.trans (nI_add (kt) (1))
        refine va_put (D := (dC, dI)) (ci := 8) (v := .int (nI (kt + 1))) (ty := tyX8 1) (C := RX8) (T := TX8) (N := 2) hx hb hts (fun _ h => List.mem_cons_of_mem _ (List.mem_append_right _ h)) tyX8 tyX8_ok nmX8 hown hK hP hD hS 0 rfl rfl 1 kc_l_1_2 (hts (.fieldLink RX8 15 "NotEnded$Tape" "length" "I") (List.mem_cons_of_mem _ (List.mem_append_left _ (List.mem_of_getElem? (i := 0) rfl)))) (fun _ h9 => h9) rfl (tyX8_ok 1 kc_l_1_2) rfl rfl (Nat.le_of_ble_eq_true rfl) dX8_append_49 (fun H locs hP hD hS => ?_)
        have hPD : kPD dC dI A [(jT, .inr (8, [.ref t0, .int (nI (kt + 1))])), (t0, .inl (cC, 120, .inl f_30))] H := ⟨hP, hD⟩
        have hP := hPD.1
        have hD := hPD.2
        refine lv_iinc (v := 0) hx hb dX8_append_52 hl (k := 1) rfl (by decide) kc_l_2_4 (kTo [(2, .int 0), (3, .int x_13), (0, .ref jT), (1, .int p0)]) (fun ls hl => ?_)
        refine lv_goto (tgt := 3) hx hb dX8_append_55 kc_t_55_m52 ?_
        refine lv_iload_n hx hb dX8_append_3 rfl (lv_at hl 0 rfl) ?_
        refine lv_if_lt (tgt := 58) hx hb dX8_append_4 kc_t_4_54 (fun c_33 => absurd c_33 (by decide)) (fun c_33 => ?_)
        refine lv_iload_n hx hb dX8_append_7 rfl (lv_at hl 3 rfl) ?_
        refine lv_iload_n hx hb dX8_append_8 rfl (lv_at hl 0 rfl) ?_
        obtain ⟨x_34, ex_34⟩ : ∃ z : Int32, z = (Int32.toUInt32 p0 >>> (Int32.toUInt32 0 &&& Int32.toUInt32 31)).toInt32 := ⟨_, rfl⟩
        refine lv_iushr (v := x_34) hx hb dX8_append_9 ex_34.symm ?_
        refine lv_sipush (v := 255) hx hb dX8_append_10 kc_s_255 ?_
        refine lv_iand hx hb dX8_append_13 ?_
        refine lv_topi (fun x_35 ex_35 => ?_)
        refine lv_istore_n hx hb dX8_append_14 rfl hl kc_l_3_4 (kTo [(3, .int x_35), (2, .int 0), (0, .ref jT), (1, .int p0)]) (fun ls hl => ?_)
        refine lv_iload_n hx hb dX8_append_15 rfl (lv_at hl 0 rfl) ?_
        have hy_36 : kS p0 0 = x_35 := by rw [ex_35, ex_34]; exact (kSu0 p0).symm
        refine lv_if_eq (tgt := 52) hx hb dX8_append_16 kc_t_16_36 (fun c_37 => ?_) (fun c_37 => ?_)
        · refine lv_iinc (v := (-8)) hx hb dX8_append_52 hl (k := 1) rfl (by decide) kc_l_2_4 (kTo [(2, .int (-8)), (3, .int x_35), (0, .ref jT), (1, .int p0)]) (fun ls hl => ?_)
          refine lv_goto (tgt := 3) hx hb dX8_append_55 kc_t_55_m52 ?_
          refine lv_iload_n hx hb dX8_append_3 rfl (lv_at hl 0 rfl) ?_
          refine lv_if_lt (tgt := 58) hx hb dX8_append_4 kc_t_4_54 (fun c_38 => ?_) (fun c_38 => absurd (by decide) c_38)
          have hk8 : kCnt p0 = 1 := by simp [kCnt, kC1, hy_4, hy_9, hy_14, hy_36, c_5, c_10, c_15, c_37]
          have hP9 := hP
          have hD9 := hD
          have hK9 := hK
          rw [hQ]
          exact W.vret hx hb hr (fun t ht hW => ⟨⟨(f_30, (kt + 1), (kUpN bt kt (kSn p0 8))), rfl, ⟨by unfold kPut; rw [kP1_z (k := 24) (hy_4.trans c_5), kP1_z (k := 16) (hy_9.trans c_10), kP1_n (k := 8) (fun z => c_15 (hy_14.symm.trans z)), kP1_z (k := 0) (hy_36.trans c_37)], (kUpB (by omega) ef_30 ex_29 hy_14 hbt), (kUp8 hb8), by omega⟩,  by rw [ht]; exact hP9, va_K.moved hW.alike hK9, hD9⟩, hS.F ht⟩) hS.2.2 dX8_append_58
        · refine lv_aload_n hx hb dX8_append_19 rfl (lv_at hl 2 rfl) ?_
          refine va_get (D := (dC, dI)) (ci := 8) (v := .int (nI (kt + 1))) (C := RX8) (T := TX8) (N := 2) hx hb hts (fun _ h => List.mem_cons_of_mem _ (List.mem_append_right _ h)) hown hK hP 0 rfl rfl 1 kc_l_1_2 (hts (.fieldLink RX8 15 "NotEnded$Tape" "length" "I") (List.mem_cons_of_mem _ (List.mem_append_left _ (List.mem_of_getElem? (i := 0) rfl)))) (fun _ h9 => h9) rfl dX8_append_20 ?_
          refine lv_aload_n hx hb dX8_append_23 rfl (lv_at hl 2 rfl) ?_
          refine va_get (D := (dC, dI)) (ci := 8) (v := .ref t0) (C := RX8) (T := TX8) (N := 2) hx hb hts (fun _ h => List.mem_cons_of_mem _ (List.mem_append_right _ h)) hown hK hP 0 rfl rfl 0 kc_l_0_2 (hts (.fieldLink RX8 9 "NotEnded$Tape" "signs" "[C") (List.mem_cons_of_mem _ (List.mem_append_left _ (List.mem_of_getElem? (i := 1) rfl)))) (fun _ h9 => h9) rfl dX8_append_24 ?_
          refine va_alen hx hb hK hP 1 0 rfl rfl (v := 120) rfl dX8_append_27 ?_
          have hy_36_c : kC1 p0 0 = 1 := by simp [kC1, hy_36, c_37]
          refine lv_icmp_ge (tgt := 52) hx hb dX8_append_28 kc_t_28_24 (fun c_39 => absurd c_39 (nI_ge (a := kt + 1) (b := 120) (by omega) (by decide))) (fun c_39 => ?_)
          refine lv_aload_n hx hb dX8_append_31 rfl (lv_at hl 2 rfl) ?_
          refine va_get (D := (dC, dI)) (ci := 8) (v := .ref t0) (C := RX8) (T := TX8) (N := 2) hx hb hts (fun _ h => List.mem_cons_of_mem _ (List.mem_append_right _ h)) hown hK hP 0 rfl rfl 0 kc_l_0_2 (hts (.fieldLink RX8 9 "NotEnded$Tape" "signs" "[C") (List.mem_cons_of_mem _ (List.mem_append_left _ (List.mem_of_getElem? (i := 1) rfl)))) (fun _ h9 => h9) rfl dX8_append_32 ?_
          refine lv_aload_n hx hb dX8_append_35 rfl (lv_at hl 2 rfl) ?_
          refine va_get (D := (dC, dI)) (ci := 8) (v := .int (nI (kt + 1))) (C := RX8) (T := TX8) (N := 2) hx hb hts (fun _ h => List.mem_cons_of_mem _ (List.mem_append_right _ h)) hown hK hP 0 rfl rfl 1 kc_l_1_2 (hts (.fieldLink RX8 15 "NotEnded$Tape" "length" "I") (List.mem_cons_of_mem _ (List.mem_append_left _ (List.mem_of_getElem? (i := 0) rfl)))) (fun _ h9 => h9) rfl dX8_append_36 ?_
          refine lv_iload_n hx hb dX8_append_39 rfl (lv_at hl 0 rfl) ?_
          obtain ⟨x_40, ex_40⟩ : ∃ z : Int32, z = (Int32.toUInt32 x_35 % 65536).toInt32 := ⟨_, rfl⟩
          refine lv_i2c (v := x_40) hx hb dX8_append_40 ex_40.symm ?_
          have bd_42 : kt + 1 < 120 := by omega
          refine va_cast hx hb hK hP hD hS 1 0 rfl rfl (vp_in_nI (n := kt + 1) (N := 120) bd_42 kc_31_120) dX8_append_41 (fun H locs hP hD hS => ?_)
          obtain ⟨f_41, ef_41⟩ : ∃ gg9 : Nat → Int32, gg9 = upd f_30 (Int32.toNatClampNeg (nI (kt + 1))) (vp_nar .char x_40) := ⟨_, rfl⟩
          have hPD : kPD dC dI A [(jT, .inr (8, [.ref t0, .int (nI (kt + 1))])), (t0, .inl (cC, 120, .inl f_41))] H := by rw [ef_41]; exact ⟨hP, hD⟩
          have hP := hPD.1
          have hD := hPD.2
          refine lv_aload_n hx hb dX8_append_42 rfl (lv_at hl 2 rfl) ?_
          refine lv_dup hx hb dX8_append_43 rfl ?_
          refine va_get (D := (dC, dI)) (ci := 8) (v := .int (nI (kt + 1))) (C := RX8) (T := TX8) (N := 2) hx hb hts (fun _ h => List.mem_cons_of_mem _ (List.mem_append_right _ h)) hown hK hP 0 rfl rfl 1 kc_l_1_2 (hts (.fieldLink RX8 15 "NotEnded$Tape" "length" "I") (List.mem_cons_of_mem _ (List.mem_append_left _ (List.mem_of_getElem? (i := 0) rfl)))) (fun _ h9 => h9) rfl dX8_append_44 ?_
          refine lv_iconst (v := 1) hx hb dX8_append_47 kc_i_1 ?_
          refine lv_iadd hx hb dX8_append_48 ?_
          refine lv_topi (fun y_43 ey_43 => ?_)
          obtain rfl : y_43 = nI (kt + 1 + 1) := ey_43.trans (nI_add (kt + 1) (1))
          refine va_put (D := (dC, dI)) (ci := 8) (v := .int (nI (kt + 1 + 1))) (ty := tyX8 1) (C := RX8) (T := TX8) (N := 2) hx hb hts (fun _ h => List.mem_cons_of_mem _ (List.mem_append_right _ h)) tyX8 tyX8_ok nmX8 hown hK hP hD hS 0 rfl rfl 1 kc_l_1_2 (hts (.fieldLink RX8 15 "NotEnded$Tape" "length" "I") (List.mem_cons_of_mem _ (List.mem_append_left _ (List.mem_of_getElem? (i := 0) rfl)))) (fun _ h9 => h9) rfl (tyX8_ok 1 kc_l_1_2) rfl rfl (Nat.le_of_ble_eq_true rfl) dX8_append_49 (fun H locs hP hD hS => ?_)
          have hPD : kPD dC dI A [(jT, .inr (8, [.ref t0, .int (nI (kt + 1 + 1))])), (t0, .inl (cC, 120, .inl f_41))] H := ⟨hP, hD⟩
          have hP := hPD.1
          have hD := hPD.2
          refine lv_iinc (v := (-8)) hx hb dX8_append_52 hl (k := 1) rfl (by decide) kc_l_2_4 (kTo [(2, .int (-8)), (3, .int x_35), (0, .ref jT), (1, .int p0)]) (fun ls hl => ?_)
          refine lv_goto (tgt := 3) hx hb dX8_append_55 kc_t_55_m52 ?_
          refine lv_iload_n hx hb dX8_append_3 rfl (lv_at hl 0 rfl) ?_
          refine lv_if_lt (tgt := 58) hx hb dX8_append_4 kc_t_4_54 (fun c_44 => ?_) (fun c_44 => absurd (by decide) c_44)
          have hk8 : kCnt p0 = 2 := by simp [kCnt, kC1, hy_4, hy_9, hy_14, hy_36, c_5, c_10, c_15, c_37]
          have hP9 := hP
          have hD9 := hD
          have hK9 := hK
          rw [hQ]
          exact W.vret hx hb hr (fun t ht hW => ⟨⟨(f_41, (kt + 1 + 1), (kUpN (kUpN bt kt (kSn p0 8)) (kt + 1) (kSn p0 0))), rfl, ⟨by unfold kPut; rw [kP1_z (k := 24) (hy_4.trans c_5), kP1_z (k := 16) (hy_9.trans c_10), kP1_n (k := 8) (fun z => c_15 (hy_14.symm.trans z)), kP1_n (k := 0) (fun z => c_37 (hy_36.symm.trans z))], (kUpB (by omega) ef_41 ex_40 hy_36 (kUpB (by omega) ef_30 ex_29 hy_14 hbt)), (kUp8 (kUp8 hb8)), by omega⟩,  by rw [ht]; exact hP9, va_K.moved hW.alike hK9, hD9⟩, hS.F ht⟩) hS.2.2 dX8_append_58
    · refine lv_aload_n hx hb dX8_append_19 rfl (lv_at hl 2 rfl) ?_
      refine va_get (D := (dC, dI)) (ci := 8) (v := .int (nI (kt))) (C := RX8) (T := TX8) (N := 2) hx hb hts (fun _ h => List.mem_cons_of_mem _ (List.mem_append_right _ h)) hown hK hP 0 rfl rfl 1 kc_l_1_2 (hts (.fieldLink RX8 15 "NotEnded$Tape" "length" "I") (List.mem_cons_of_mem _ (List.mem_append_left _ (List.mem_of_getElem? (i := 0) rfl)))) (fun _ h9 => h9) rfl dX8_append_20 ?_
      refine lv_aload_n hx hb dX8_append_23 rfl (lv_at hl 2 rfl) ?_
      refine va_get (D := (dC, dI)) (ci := 8) (v := .ref t0) (C := RX8) (T := TX8) (N := 2) hx hb hts (fun _ h => List.mem_cons_of_mem _ (List.mem_append_right _ h)) hown hK hP 0 rfl rfl 0 kc_l_0_2 (hts (.fieldLink RX8 9 "NotEnded$Tape" "signs" "[C") (List.mem_cons_of_mem _ (List.mem_append_left _ (List.mem_of_getElem? (i := 1) rfl)))) (fun _ h9 => h9) rfl dX8_append_24 ?_
      refine va_alen hx hb hK hP 1 0 rfl rfl (v := 120) rfl dX8_append_27 ?_
      have hy_9_c : kC1 p0 16 = 1 := by simp [kC1, hy_9, c_10]
      refine lv_icmp_ge (tgt := 52) hx hb dX8_append_28 kc_t_28_24 (fun c_45 => absurd c_45 (nI_ge (a := kt) (b := 120) (by omega) (by decide))) (fun c_45 => ?_)
      refine lv_aload_n hx hb dX8_append_31 rfl (lv_at hl 2 rfl) ?_
      refine va_get (D := (dC, dI)) (ci := 8) (v := .ref t0) (C := RX8) (T := TX8) (N := 2) hx hb hts (fun _ h => List.mem_cons_of_mem _ (List.mem_append_right _ h)) hown hK hP 0 rfl rfl 0 kc_l_0_2 (hts (.fieldLink RX8 9 "NotEnded$Tape" "signs" "[C") (List.mem_cons_of_mem _ (List.mem_append_left _ (List.mem_of_getElem? (i := 1) rfl)))) (fun _ h9 => h9) rfl dX8_append_32 ?_
      refine lv_aload_n hx hb dX8_append_35 rfl (lv_at hl 2 rfl) ?_
      refine va_get (D := (dC, dI)) (ci := 8) (v := .int (nI (kt))) (C := RX8) (T := TX8) (N := 2) hx hb hts (fun _ h => List.mem_cons_of_mem _ (List.mem_append_right _ h)) hown hK hP 0 rfl rfl 1 kc_l_1_2 (hts (.fieldLink RX8 15 "NotEnded$Tape" "length" "I") (List.mem_cons_of_mem _ (List.mem_append_left _ (List.mem_of_getElem? (i := 0) rfl)))) (fun _ h9 => h9) rfl dX8_append_36 ?_
      refine lv_iload_n hx hb dX8_append_39 rfl (lv_at hl 0 rfl) ?_
      obtain ⟨x_46, ex_46⟩ : ∃ z : Int32, z = (Int32.toUInt32 x_8 % 65536).toInt32 := ⟨_, rfl⟩
      refine lv_i2c (v := x_46) hx hb dX8_append_40 ex_46.symm ?_
      have bd_48 : kt < 120 := by omega
      refine va_cast hx hb hK hP hD hS 1 0 rfl rfl (vp_in_nI (n := kt) (N := 120) bd_48 kc_31_120) dX8_append_41 (fun H locs hP hD hS => ?_)
      obtain ⟨f_47, ef_47⟩ : ∃ gg9 : Nat → Int32, gg9 = upd gT (Int32.toNatClampNeg (nI (kt))) (vp_nar .char x_46) := ⟨_, rfl⟩
      have hPD : kPD dC dI A [(jT, .inr (8, [.ref t0, .int (nI (kt))])), (t0, .inl (cC, 120, .inl f_47))] H := by rw [ef_47]; exact ⟨hP, hD⟩
      have hP := hPD.1
      have hD := hPD.2
      refine lv_aload_n hx hb dX8_append_42 rfl (lv_at hl 2 rfl) ?_
      refine lv_dup hx hb dX8_append_43 rfl ?_
      refine va_get (D := (dC, dI)) (ci := 8) (v := .int (nI (kt))) (C := RX8) (T := TX8) (N := 2) hx hb hts (fun _ h => List.mem_cons_of_mem _ (List.mem_append_right _ h)) hown hK hP 0 rfl rfl 1 kc_l_1_2 (hts (.fieldLink RX8 15 "NotEnded$Tape" "length" "I") (List.mem_cons_of_mem _ (List.mem_append_left _ (List.mem_of_getElem? (i := 0) rfl)))) (fun _ h9 => h9) rfl dX8_append_44 ?_
      refine lv_iconst (v := 1) hx hb dX8_append_47 kc_i_1 ?_
      refine lv_iadd hx hb dX8_append_48 ?_
      refine lv_topi (fun y_49 ey_49 => ?_)
      obtain rfl : y_49 = nI (kt + 1) := ey_49.trans (nI_add (kt) (1))
      refine va_put (D := (dC, dI)) (ci := 8) (v := .int (nI (kt + 1))) (ty := tyX8 1) (C := RX8) (T := TX8) (N := 2) hx hb hts (fun _ h => List.mem_cons_of_mem _ (List.mem_append_right _ h)) tyX8 tyX8_ok nmX8 hown hK hP hD hS 0 rfl rfl 1 kc_l_1_2 (hts (.fieldLink RX8 15 "NotEnded$Tape" "length" "I") (List.mem_cons_of_mem _ (List.mem_append_left _ (List.mem_of_getElem? (i := 0) rfl)))) (fun _ h9 => h9) rfl (tyX8_ok 1 kc_l_1_2) rfl rfl (Nat.le_of_ble_eq_true rfl) dX8_append_49 (fun H locs hP hD hS => ?_)
      have hPD : kPD dC dI A [(jT, .inr (8, [.ref t0, .int (nI (kt + 1))])), (t0, .inl (cC, 120, .inl f_47))] H := ⟨hP, hD⟩
      have hP := hPD.1
      have hD := hPD.2
      refine lv_iinc (v := 8) hx hb dX8_append_52 hl (k := 1) rfl (by decide) kc_l_2_4 (kTo [(2, .int 8), (3, .int x_8), (0, .ref jT), (1, .int p0)]) (fun ls hl => ?_)
      refine lv_goto (tgt := 3) hx hb dX8_append_55 kc_t_55_m52 ?_
      refine lv_iload_n hx hb dX8_append_3 rfl (lv_at hl 0 rfl) ?_
      refine lv_if_lt (tgt := 58) hx hb dX8_append_4 kc_t_4_54 (fun c_50 => absurd c_50 (by decide)) (fun c_50 => ?_)
      refine lv_iload_n hx hb dX8_append_7 rfl (lv_at hl 3 rfl) ?_
      refine lv_iload_n hx hb dX8_append_8 rfl (lv_at hl 0 rfl) ?_
      obtain ⟨x_51, ex_51⟩ : ∃ z : Int32, z = (Int32.toUInt32 p0 >>> (Int32.toUInt32 8 &&& Int32.toUInt32 31)).toInt32 := ⟨_, rfl⟩
      refine lv_iushr (v := x_51) hx hb dX8_append_9 ex_51.symm ?_
      refine lv_sipush (v := 255) hx hb dX8_append_10 kc_s_255 ?_
      refine lv_iand hx hb dX8_append_13 ?_
      refine lv_topi (fun x_52 ex_52 => ?_)
      refine lv_istore_n hx hb dX8_append_14 rfl hl kc_l_3_4 (kTo [(3, .int x_52), (2, .int 8), (0, .ref jT), (1, .int p0)]) (fun ls hl => ?_)
      refine lv_iload_n hx hb dX8_append_15 rfl (lv_at hl 0 rfl) ?_
      have hy_53 : kS p0 8 = x_52 := by rw [ex_52, ex_51]; exact (kSu8 p0).symm
      refine lv_if_eq (tgt := 52) hx hb dX8_append_16 kc_t_16_36 (fun c_54 => ?_) (fun c_54 => ?_)
      · refine lv_iinc (v := 0) hx hb dX8_append_52 hl (k := 1) rfl (by decide) kc_l_2_4 (kTo [(2, .int 0), (3, .int x_52), (0, .ref jT), (1, .int p0)]) (fun ls hl => ?_)
        refine lv_goto (tgt := 3) hx hb dX8_append_55 kc_t_55_m52 ?_
        refine lv_iload_n hx hb dX8_append_3 rfl (lv_at hl 0 rfl) ?_
        refine lv_if_lt (tgt := 58) hx hb dX8_append_4 kc_t_4_54 (fun c_55 => absurd c_55 (by decide)) (fun c_55 => ?_)
        refine lv_iload_n hx hb dX8_append_7 rfl (lv_at hl 3 rfl) ?_
        refine lv_iload_n hx hb dX8_append_8 rfl (lv_at hl 0 rfl) ?_
        obtain ⟨x_56, ex_56⟩ : ∃ z : Int32, z = (Int32.toUInt32 p0 >>> (Int32.toUInt32 0 &&& Int32.toUInt32 31)).toInt32 := ⟨_, rfl⟩
        refine lv_iushr (v := x_56) hx hb dX8_append_9 ex_56.symm ?_
        refine lv_sipush (v := 255) hx hb dX8_append_10 kc_s_255 ?_
        refine lv_iand hx hb dX8_append_13 ?_
        refine lv_topi (fun x_57 ex_57 => ?_)
        refine lv_istore_n hx hb dX8_append_14 rfl hl kc_l_3_4 (kTo [(3, .int x_57), (2, .int 0), (0, .ref jT), (1, .int p0)]) (fun ls hl => ?_)
        refine lv_iload_n hx hb dX8_append_15 rfl (lv_at hl 0 rfl) ?_
        have hy_58 : kS p0 0 = x_57 := by rw [ex_57, ex_56]; exact (kSu0 p0).symm
        refine lv_if_eq (tgt := 52) hx hb dX8_append_16 kc_t_16_36 (fun c_59 => ?_) (fun c_59 => ?_)
        · refine lv_iinc (v := (-8)) hx hb dX8_append_52 hl (k := 1) rfl (by decide) kc_l_2_4 (kTo [(2, .int (-8)), (3, .int x_57), (0, .ref jT), (1, .int p0)]) (fun ls hl => ?_)
          refine lv_goto (tgt := 3) hx hb dX8_append_55 kc_t_55_m52 ?_
          refine lv_iload_n hx hb dX8_append_3 rfl (lv_at hl 0 rfl) ?_
          refine lv_if_lt (tgt := 58) hx hb dX8_append_4 kc_t_4_54 (fun c_60 => ?_) (fun c_60 => absurd (by decide) c_60)
          have hk8 : kCnt p0 = 1 := by simp [kCnt, kC1, hy_4, hy_9, hy_53, hy_58, c_5, c_10, c_54, c_59]
          have hP9 := hP
          have hD9 := hD
          have hK9 := hK
          rw [hQ]
          exact W.vret hx hb hr (fun t ht hW => ⟨⟨(f_47, (kt + 1), (kUpN bt kt (kSn p0 16))), rfl, ⟨by unfold kPut; rw [kP1_z (k := 24) (hy_4.trans c_5), kP1_n (k := 16) (fun z => c_10 (hy_9.symm.trans z)), kP1_z (k := 8) (hy_53.trans c_54), kP1_z (k := 0) (hy_58.trans c_59)], (kUpB (by omega) ef_47 ex_46 hy_9 hbt), (kUp8 hb8), by omega⟩,  by rw [ht]; exact hP9, va_K.moved hW.alike hK9, hD9⟩, hS.F ht⟩) hS.2.2 dX8_append_58
        · refine lv_aload_n hx hb dX8_append_19 rfl (lv_at hl 2 rfl) ?_
          refine va_get (D := (dC, dI)) (ci := 8) (v := .int (nI (kt + 1))) (C := RX8) (T := TX8) (N := 2) hx hb hts (fun _ h => List.mem_cons_of_mem _ (List.mem_append_right _ h)) hown hK hP 0 rfl rfl 1 kc_l_1_2 (hts (.fieldLink RX8 15 "NotEnded$Tape" "length" "I") (List.mem_cons_of_mem _ (List.mem_append_left _ (List.mem_of_getElem? (i := 0) rfl)))) (fun _ h9 => h9) rfl dX8_append_20 ?_
          refine lv_aload_n hx hb dX8_append_23 rfl (lv_at hl 2 rfl) ?_
          refine va_get (D := (dC, dI)) (ci := 8) (v := .ref t0) (C := RX8) (T := TX8) (N := 2) hx hb hts (fun _ h => List.mem_cons_of_mem _ (List.mem_append_right _ h)) hown hK hP 0 rfl rfl 0 kc_l_0_2 (hts (.fieldLink RX8 9 "NotEnded$Tape" "signs" "[C") (List.mem_cons_of_mem _ (List.mem_append_left _ (List.mem_of_getElem? (i := 1) rfl)))) (fun _ h9 => h9) rfl dX8_append_24 ?_
          refine va_alen hx hb hK hP 1 0 rfl rfl (v := 120) rfl dX8_append_27 ?_
          have hy_58_c : kC1 p0 0 = 1 := by simp [kC1, hy_58, c_59]
          refine lv_icmp_ge (tgt := 52) hx hb dX8_append_28 kc_t_28_24 (fun c_61 => absurd c_61 (nI_ge (a := kt + 1) (b := 120) (by omega) (by decide))) (fun c_61 => ?_)
          refine lv_aload_n hx hb dX8_append_31 rfl (lv_at hl 2 rfl) ?_
          refine va_get (D := (dC, dI)) (ci := 8) (v := .ref t0) (C := RX8) (T := TX8) (N := 2) hx hb hts (fun _ h => List.mem_cons_of_mem _ (List.mem_append_right _ h)) hown hK hP 0 rfl rfl 0 kc_l_0_2 (hts (.fieldLink RX8 9 "NotEnded$Tape" "signs" "[C") (List.mem_cons_of_mem _ (List.mem_append_left _ (List.mem_of_getElem? (i := 1) rfl)))) (fun _ h9 => h9) rfl dX8_append_32 ?_
          refine lv_aload_n hx hb dX8_append_35 rfl (lv_at hl 2 rfl) ?_
          refine va_get (D := (dC, dI)) (ci := 8) (v := .int (nI (kt + 1))) (C := RX8) (T := TX8) (N := 2) hx hb hts (fun _ h => List.mem_cons_of_mem _ (List.mem_append_right _ h)) hown hK hP 0 rfl rfl 1 kc_l_1_2 (hts (.fieldLink RX8 15 "NotEnded$Tape" "length" "I") (List.mem_cons_of_mem _ (List.mem_append_left _ (List.mem_of_getElem? (i := 0) rfl)))) (fun _ h9 => h9) rfl dX8_append_36 ?_
          refine lv_iload_n hx hb dX8_append_39 rfl (lv_at hl 0 rfl) ?_
          obtain ⟨x_62, ex_62⟩ : ∃ z : Int32, z = (Int32.toUInt32 x_57 % 65536).toInt32 := ⟨_, rfl⟩
          refine lv_i2c (v := x_62) hx hb dX8_append_40 ex_62.symm ?_
          have bd_64 : kt + 1 < 120 := by omega
          refine va_cast hx hb hK hP hD hS 1 0 rfl rfl (vp_in_nI (n := kt + 1) (N := 120) bd_64 kc_31_120) dX8_append_41 (fun H locs hP hD hS => ?_)
          obtain ⟨f_63, ef_63⟩ : ∃ gg9 : Nat → Int32, gg9 = upd f_47 (Int32.toNatClampNeg (nI (kt + 1))) (vp_nar .char x_62) := ⟨_, rfl⟩
          have hPD : kPD dC dI A [(jT, .inr (8, [.ref t0, .int (nI (kt + 1))])), (t0, .inl (cC, 120, .inl f_63))] H := by rw [ef_63]; exact ⟨hP, hD⟩
          have hP := hPD.1
          have hD := hPD.2
          refine lv_aload_n hx hb dX8_append_42 rfl (lv_at hl 2 rfl) ?_
          refine lv_dup hx hb dX8_append_43 rfl ?_
          refine va_get (D := (dC, dI)) (ci := 8) (v := .int (nI (kt + 1))) (C := RX8) (T := TX8) (N := 2) hx hb hts (fun _ h => List.mem_cons_of_mem _ (List.mem_append_right _ h)) hown hK hP 0 rfl rfl 1 kc_l_1_2 (hts (.fieldLink RX8 15 "NotEnded$Tape" "length" "I") (List.mem_cons_of_mem _ (List.mem_append_left _ (List.mem_of_getElem? (i := 0) rfl)))) (fun _ h9 => h9) rfl dX8_append_44 ?_
          refine lv_iconst (v := 1) hx hb dX8_append_47 kc_i_1 ?_
          refine lv_iadd hx hb dX8_append_48 ?_
          refine lv_topi (fun y_65 ey_65 => ?_)
          obtain rfl : y_65 = nI (kt + 1 + 1) := ey_65.trans (nI_add (kt + 1) (1))
          refine va_put (D := (dC, dI)) (ci := 8) (v := .int (nI (kt + 1 + 1))) (ty := tyX8 1) (C := RX8) (T := TX8) (N := 2) hx hb hts (fun _ h => List.mem_cons_of_mem _ (List.mem_append_right _ h)) tyX8 tyX8_ok nmX8 hown hK hP hD hS 0 rfl rfl 1 kc_l_1_2 (hts (.fieldLink RX8 15 "NotEnded$Tape" "length" "I") (List.mem_cons_of_mem _ (List.mem_append_left _ (List.mem_of_getElem? (i := 0) rfl)))) (fun _ h9 => h9) rfl (tyX8_ok 1 kc_l_1_2) rfl rfl (Nat.le_of_ble_eq_true rfl) dX8_append_49 (fun H locs hP hD hS => ?_)
          have hPD : kPD dC dI A [(jT, .inr (8, [.ref t0, .int (nI (kt + 1 + 1))])), (t0, .inl (cC, 120, .inl f_63))] H := ⟨hP, hD⟩
          have hP := hPD.1
          have hD := hPD.2
          refine lv_iinc (v := (-8)) hx hb dX8_append_52 hl (k := 1) rfl (by decide) kc_l_2_4 (kTo [(2, .int (-8)), (3, .int x_57), (0, .ref jT), (1, .int p0)]) (fun ls hl => ?_)
          refine lv_goto (tgt := 3) hx hb dX8_append_55 kc_t_55_m52 ?_
          refine lv_iload_n hx hb dX8_append_3 rfl (lv_at hl 0 rfl) ?_
          refine lv_if_lt (tgt := 58) hx hb dX8_append_4 kc_t_4_54 (fun c_66 => ?_) (fun c_66 => absurd (by decide) c_66)
          have hk8 : kCnt p0 = 2 := by simp [kCnt, kC1, hy_4, hy_9, hy_53, hy_58, c_5, c_10, c_54, c_59]
          have hP9 := hP
          have hD9 := hD
          have hK9 := hK
          rw [hQ]
          exact W.vret hx hb hr (fun t ht hW => ⟨⟨(f_63, (kt + 1 + 1), (kUpN (kUpN bt kt (kSn p0 16)) (kt + 1) (kSn p0 0))), rfl, ⟨by unfold kPut; rw [kP1_z (k := 24) (hy_4.trans c_5), kP1_n (k := 16) (fun z => c_10 (hy_9.symm.trans z)), kP1_z (k := 8) (hy_53.trans c_54), kP1_n (k := 0) (fun z => c_59 (hy_58.symm.trans z))], (kUpB (by omega) ef_63 ex_62 hy_58 (kUpB (by omega) ef_47 ex_46 hy_9 hbt)), (kUp8 (kUp8 hb8)), by omega⟩,  by rw [ht]; exact hP9, va_K.moved hW.alike hK9, hD9⟩, hS.F ht⟩) hS.2.2 dX8_append_58
      · refine lv_aload_n hx hb dX8_append_19 rfl (lv_at hl 2 rfl) ?_
        refine va_get (D := (dC, dI)) (ci := 8) (v := .int (nI (kt + 1))) (C := RX8) (T := TX8) (N := 2) hx hb hts (fun _ h => List.mem_cons_of_mem _ (List.mem_append_right _ h)) hown hK hP 0 rfl rfl 1 kc_l_1_2 (hts (.fieldLink RX8 15 "NotEnded$Tape" "length" "I") (List.mem_cons_of_mem _ (List.mem_append_left _ (List.mem_of_getElem? (i := 0) rfl)))) (fun _ h9 => h9) rfl dX8_append_20 ?_
        refine lv_aload_n hx hb dX8_append_23 rfl (lv_at hl 2 rfl) ?_
        refine va_get (D := (dC, dI)) (ci := 8) (v := .ref t0) (C := RX8) (T := TX8) (N := 2) hx hb hts (fun _ h => List.mem_cons_of_mem _ (List.mem_append_right _ h)) hown hK hP 0 rfl rfl 0 kc_l_0_2 (hts (.fieldLink RX8 9 "NotEnded$Tape" "signs" "[C") (List.mem_cons_of_mem _ (List.mem_append_left _ (List.mem_of_getElem? (i := 1) rfl)))) (fun _ h9 => h9) rfl dX8_append_24 ?_
        refine va_alen hx hb hK hP 1 0 rfl rfl (v := 120) rfl dX8_append_27 ?_
        have hy_53_c : kC1 p0 8 = 1 := by simp [kC1, hy_53, c_54]
        refine lv_icmp_ge (tgt := 52) hx hb dX8_append_28 kc_t_28_24 (fun c_67 => absurd c_67 (nI_ge (a := kt + 1) (b := 120) (by omega) (by decide))) (fun c_67 => ?_)
        refine lv_aload_n hx hb dX8_append_31 rfl (lv_at hl 2 rfl) ?_
        refine va_get (D := (dC, dI)) (ci := 8) (v := .ref t0) (C := RX8) (T := TX8) (N := 2) hx hb hts (fun _ h => List.mem_cons_of_mem _ (List.mem_append_right _ h)) hown hK hP 0 rfl rfl 0 kc_l_0_2 (hts (.fieldLink RX8 9 "NotEnded$Tape" "signs" "[C") (List.mem_cons_of_mem _ (List.mem_append_left _ (List.mem_of_getElem? (i := 1) rfl)))) (fun _ h9 => h9) rfl dX8_append_32 ?_
        refine lv_aload_n hx hb dX8_append_35 rfl (lv_at hl 2 rfl) ?_
        refine va_get (D := (dC, dI)) (ci := 8) (v := .int (nI (kt + 1))) (C := RX8) (T := TX8) (N := 2) hx hb hts (fun _ h => List.mem_cons_of_mem _ (List.mem_append_right _ h)) hown hK hP 0 rfl rfl 1 kc_l_1_2 (hts (.fieldLink RX8 15 "NotEnded$Tape" "length" "I") (List.mem_cons_of_mem _ (List.mem_append_left _ (List.mem_of_getElem? (i := 0) rfl)))) (fun _ h9 => h9) rfl dX8_append_36 ?_
        refine lv_iload_n hx hb dX8_append_39 rfl (lv_at hl 0 rfl) ?_
        obtain ⟨x_68, ex_68⟩ : ∃ z : Int32, z = (Int32.toUInt32 x_52 % 65536).toInt32 := ⟨_, rfl⟩
        refine lv_i2c (v := x_68) hx hb dX8_append_40 ex_68.symm ?_
        have bd_70 : kt + 1 < 120 := by omega
        refine va_cast hx hb hK hP hD hS 1 0 rfl rfl (vp_in_nI (n := kt + 1) (N := 120) bd_70 kc_31_120) dX8_append_41 (fun H locs hP hD hS => ?_)
        obtain ⟨f_69, ef_69⟩ : ∃ gg9 : Nat → Int32, gg9 = upd f_47 (Int32.toNatClampNeg (nI (kt + 1))) (vp_nar .char x_68) := ⟨_, rfl⟩
        have hPD : kPD dC dI A [(jT, .inr (8, [.ref t0, .int (nI (kt + 1))])), (t0, .inl (cC, 120, .inl f_69))] H := by rw [ef_69]; exact ⟨hP, hD⟩
        have hP := hPD.1
        have hD := hPD.2
        refine lv_aload_n hx hb dX8_append_42 rfl (lv_at hl 2 rfl) ?_
        refine lv_dup hx hb dX8_append_43 rfl ?_
        refine va_get (D := (dC, dI)) (ci := 8) (v := .int (nI (kt + 1))) (C := RX8) (T := TX8) (N := 2) hx hb hts (fun _ h => List.mem_cons_of_mem _ (List.mem_append_right _ h)) hown hK hP 0 rfl rfl 1 kc_l_1_2 (hts (.fieldLink RX8 15 "NotEnded$Tape" "length" "I") (List.mem_cons_of_mem _ (List.mem_append_left _ (List.mem_of_getElem? (i := 0) rfl)))) (fun _ h9 => h9) rfl dX8_append_44 ?_
        refine lv_iconst (v := 1) hx hb dX8_append_47 kc_i_1 ?_
        refine lv_iadd hx hb dX8_append_48 ?_
        refine lv_topi (fun y_71 ey_71 => ?_)
        obtain rfl : y_71 = nI (kt + 1 + 1) := ey_71.trans (nI_add (kt + 1) (1))
        refine va_put (D := (dC, dI)) (ci := 8) (v := .int (nI (kt + 1 + 1))) (ty := tyX8 1) (C := RX8) (T := TX8) (N := 2) hx hb hts (fun _ h => List.mem_cons_of_mem _ (List.mem_append_right _ h)) tyX8 tyX8_ok nmX8 hown hK hP hD hS 0 rfl rfl 1 kc_l_1_2 (hts (.fieldLink RX8 15 "NotEnded$Tape" "length" "I") (List.mem_cons_of_mem _ (List.mem_append_left _ (List.mem_of_getElem? (i := 0) rfl)))) (fun _ h9 => h9) rfl (tyX8_ok 1 kc_l_1_2) rfl rfl (Nat.le_of_ble_eq_true rfl) dX8_append_49 (fun H locs hP hD hS => ?_)
        have hPD : kPD dC dI A [(jT, .inr (8, [.ref t0, .int (nI (kt + 1 + 1))])), (t0, .inl (cC, 120, .inl f_69))] H := ⟨hP, hD⟩
        have hP := hPD.1
        have hD := hPD.2
        refine lv_iinc (v := 0) hx hb dX8_append_52 hl (k := 1) rfl (by decide) kc_l_2_4 (kTo [(2, .int 0), (3, .int x_52), (0, .ref jT), (1, .int p0)]) (fun ls hl => ?_)
        refine lv_goto (tgt := 3) hx hb dX8_append_55 kc_t_55_m52 ?_
        refine lv_iload_n hx hb dX8_append_3 rfl (lv_at hl 0 rfl) ?_
        refine lv_if_lt (tgt := 58) hx hb dX8_append_4 kc_t_4_54 (fun c_72 => absurd c_72 (by decide)) (fun c_72 => ?_)
        refine lv_iload_n hx hb dX8_append_7 rfl (lv_at hl 3 rfl) ?_
        refine lv_iload_n hx hb dX8_append_8 rfl (lv_at hl 0 rfl) ?_
        obtain ⟨x_73, ex_73⟩ : ∃ z : Int32, z = (Int32.toUInt32 p0 >>> (Int32.toUInt32 0 &&& Int32.toUInt32 31)).toInt32 := ⟨_, rfl⟩
        refine lv_iushr (v := x_73) hx hb dX8_append_9 ex_73.symm ?_
        refine lv_sipush (v := 255) hx hb dX8_append_10 kc_s_255 ?_
        refine lv_iand hx hb dX8_append_13 ?_
        refine lv_topi (fun x_74 ex_74 => ?_)
        refine lv_istore_n hx hb dX8_append_14 rfl hl kc_l_3_4 (kTo [(3, .int x_74), (2, .int 0), (0, .ref jT), (1, .int p0)]) (fun ls hl => ?_)
        refine lv_iload_n hx hb dX8_append_15 rfl (lv_at hl 0 rfl) ?_
        have hy_75 : kS p0 0 = x_74 := by rw [ex_74, ex_73]; exact (kSu0 p0).symm
        refine lv_if_eq (tgt := 52) hx hb dX8_append_16 kc_t_16_36 (fun c_76 => ?_) (fun c_76 => ?_)
        · refine lv_iinc (v := (-8)) hx hb dX8_append_52 hl (k := 1) rfl (by decide) kc_l_2_4 (kTo [(2, .int (-8)), (3, .int x_74), (0, .ref jT), (1, .int p0)]) (fun ls hl => ?_)
          refine lv_goto (tgt := 3) hx hb dX8_append_55 kc_t_55_m52 ?_
          refine lv_iload_n hx hb dX8_append_3 rfl (lv_at hl 0 rfl) ?_
          refine lv_if_lt (tgt := 58) hx hb dX8_append_4 kc_t_4_54 (fun c_77 => ?_) (fun c_77 => absurd (by decide) c_77)
          have hk8 : kCnt p0 = 2 := by simp [kCnt, kC1, hy_4, hy_9, hy_53, hy_75, c_5, c_10, c_54, c_76]
          have hP9 := hP
          have hD9 := hD
          have hK9 := hK
          rw [hQ]
          exact W.vret hx hb hr (fun t ht hW => ⟨⟨(f_69, (kt + 1 + 1), (kUpN (kUpN bt kt (kSn p0 16)) (kt + 1) (kSn p0 8))), rfl, ⟨by unfold kPut; rw [kP1_z (k := 24) (hy_4.trans c_5), kP1_n (k := 16) (fun z => c_10 (hy_9.symm.trans z)), kP1_n (k := 8) (fun z => c_54 (hy_53.symm.trans z)), kP1_z (k := 0) (hy_75.trans c_76)], (kUpB (by omega) ef_69 ex_68 hy_53 (kUpB (by omega) ef_47 ex_46 hy_9 hbt)), (kUp8 (kUp8 hb8)), by omega⟩,  by rw [ht]; exact hP9, va_K.moved hW.alike hK9, hD9⟩, hS.F ht⟩) hS.2.2 dX8_append_58
        · refine lv_aload_n hx hb dX8_append_19 rfl (lv_at hl 2 rfl) ?_
          refine va_get (D := (dC, dI)) (ci := 8) (v := .int (nI (kt + 1 + 1))) (C := RX8) (T := TX8) (N := 2) hx hb hts (fun _ h => List.mem_cons_of_mem _ (List.mem_append_right _ h)) hown hK hP 0 rfl rfl 1 kc_l_1_2 (hts (.fieldLink RX8 15 "NotEnded$Tape" "length" "I") (List.mem_cons_of_mem _ (List.mem_append_left _ (List.mem_of_getElem? (i := 0) rfl)))) (fun _ h9 => h9) rfl dX8_append_20 ?_
          refine lv_aload_n hx hb dX8_append_23 rfl (lv_at hl 2 rfl) ?_
          refine va_get (D := (dC, dI)) (ci := 8) (v := .ref t0) (C := RX8) (T := TX8) (N := 2) hx hb hts (fun _ h => List.mem_cons_of_mem _ (List.mem_append_right _ h)) hown hK hP 0 rfl rfl 0 kc_l_0_2 (hts (.fieldLink RX8 9 "NotEnded$Tape" "signs" "[C") (List.mem_cons_of_mem _ (List.mem_append_left _ (List.mem_of_getElem? (i := 1) rfl)))) (fun _ h9 => h9) rfl dX8_append_24 ?_
          refine va_alen hx hb hK hP 1 0 rfl rfl (v := 120) rfl dX8_append_27 ?_
          have hy_75_c : kC1 p0 0 = 1 := by simp [kC1, hy_75, c_76]
          refine lv_icmp_ge (tgt := 52) hx hb dX8_append_28 kc_t_28_24 (fun c_78 => absurd c_78 (nI_ge (a := kt + 1 + 1) (b := 120) (by omega) (by decide))) (fun c_78 => ?_)
          refine lv_aload_n hx hb dX8_append_31 rfl (lv_at hl 2 rfl) ?_
          refine va_get (D := (dC, dI)) (ci := 8) (v := .ref t0) (C := RX8) (T := TX8) (N := 2) hx hb hts (fun _ h => List.mem_cons_of_mem _ (List.mem_append_right _ h)) hown hK hP 0 rfl rfl 0 kc_l_0_2 (hts (.fieldLink RX8 9 "NotEnded$Tape" "signs" "[C") (List.mem_cons_of_mem _ (List.mem_append_left _ (List.mem_of_getElem? (i := 1) rfl)))) (fun _ h9 => h9) rfl dX8_append_32 ?_
          refine lv_aload_n hx hb dX8_append_35 rfl (lv_at hl 2 rfl) ?_
          refine va_get (D := (dC, dI)) (ci := 8) (v := .int (nI (kt + 1 + 1))) (C := RX8) (T := TX8) (N := 2) hx hb hts (fun _ h => List.mem_cons_of_mem _ (List.mem_append_right _ h)) hown hK hP 0 rfl rfl 1 kc_l_1_2 (hts (.fieldLink RX8 15 "NotEnded$Tape" "length" "I") (List.mem_cons_of_mem _ (List.mem_append_left _ (List.mem_of_getElem? (i := 0) rfl)))) (fun _ h9 => h9) rfl dX8_append_36 ?_
          refine lv_iload_n hx hb dX8_append_39 rfl (lv_at hl 0 rfl) ?_
          obtain ⟨x_79, ex_79⟩ : ∃ z : Int32, z = (Int32.toUInt32 x_74 % 65536).toInt32 := ⟨_, rfl⟩
          refine lv_i2c (v := x_79) hx hb dX8_append_40 ex_79.symm ?_
          have bd_81 : kt + 1 + 1 < 120 := by omega
          refine va_cast hx hb hK hP hD hS 1 0 rfl rfl (vp_in_nI (n := kt + 1 + 1) (N := 120) bd_81 kc_31_120) dX8_append_41 (fun H locs hP hD hS => ?_)
          obtain ⟨f_80, ef_80⟩ : ∃ gg9 : Nat → Int32, gg9 = upd f_69 (Int32.toNatClampNeg (nI (kt + 1 + 1))) (vp_nar .char x_79) := ⟨_, rfl⟩
          have hPD : kPD dC dI A [(jT, .inr (8, [.ref t0, .int (nI (kt + 1 + 1))])), (t0, .inl (cC, 120, .inl f_80))] H := by rw [ef_80]; exact ⟨hP, hD⟩
          have hP := hPD.1
          have hD := hPD.2
          refine lv_aload_n hx hb dX8_append_42 rfl (lv_at hl 2 rfl) ?_
          refine lv_dup hx hb dX8_append_43 rfl ?_
          refine va_get (D := (dC, dI)) (ci := 8) (v := .int (nI (kt + 1 + 1))) (C := RX8) (T := TX8) (N := 2) hx hb hts (fun _ h => List.mem_cons_of_mem _ (List.mem_append_right _ h)) hown hK hP 0 rfl rfl 1 kc_l_1_2 (hts (.fieldLink RX8 15 "NotEnded$Tape" "length" "I") (List.mem_cons_of_mem _ (List.mem_append_left _ (List.mem_of_getElem? (i := 0) rfl)))) (fun _ h9 => h9) rfl dX8_append_44 ?_
          refine lv_iconst (v := 1) hx hb dX8_append_47 kc_i_1 ?_
          refine lv_iadd hx hb dX8_append_48 ?_
          refine lv_topi (fun y_82 ey_82 => ?_)
          obtain rfl : y_82 = nI (kt + 1 + 1 + 1) := ey_82.trans (nI_add (kt + 1 + 1) (1))
          refine va_put (D := (dC, dI)) (ci := 8) (v := .int (nI (kt + 1 + 1 + 1))) (ty := tyX8 1) (C := RX8) (T := TX8) (N := 2) hx hb hts (fun _ h => List.mem_cons_of_mem _ (List.mem_append_right _ h)) tyX8 tyX8_ok nmX8 hown hK hP hD hS 0 rfl rfl 1 kc_l_1_2 (hts (.fieldLink RX8 15 "NotEnded$Tape" "length" "I") (List.mem_cons_of_mem _ (List.mem_append_left _ (List.mem_of_getElem? (i := 0) rfl)))) (fun _ h9 => h9) rfl (tyX8_ok 1 kc_l_1_2) rfl rfl (Nat.le_of_ble_eq_true rfl) dX8_append_49 (fun H locs hP hD hS => ?_)
          have hPD : kPD dC dI A [(jT, .inr (8, [.ref t0, .int (nI (kt + 1 + 1 + 1))])), (t0, .inl (cC, 120, .inl f_80))] H := ⟨hP, hD⟩
          have hP := hPD.1
          have hD := hPD.2
          refine lv_iinc (v := (-8)) hx hb dX8_append_52 hl (k := 1) rfl (by decide) kc_l_2_4 (kTo [(2, .int (-8)), (3, .int x_74), (0, .ref jT), (1, .int p0)]) (fun ls hl => ?_)
          refine lv_goto (tgt := 3) hx hb dX8_append_55 kc_t_55_m52 ?_
          refine lv_iload_n hx hb dX8_append_3 rfl (lv_at hl 0 rfl) ?_
          refine lv_if_lt (tgt := 58) hx hb dX8_append_4 kc_t_4_54 (fun c_83 => ?_) (fun c_83 => absurd (by decide) c_83)
          have hk8 : kCnt p0 = 3 := by simp [kCnt, kC1, hy_4, hy_9, hy_53, hy_75, c_5, c_10, c_54, c_76]
          have hP9 := hP
          have hD9 := hD
          have hK9 := hK
          rw [hQ]
          exact W.vret hx hb hr (fun t ht hW => ⟨⟨(f_80, (kt + 1 + 1 + 1), (kUpN (kUpN (kUpN bt kt (kSn p0 16)) (kt + 1) (kSn p0 8)) (kt + 1 + 1) (kSn p0 0))), rfl, ⟨by unfold kPut; rw [kP1_z (k := 24) (hy_4.trans c_5), kP1_n (k := 16) (fun z => c_10 (hy_9.symm.trans z)), kP1_n (k := 8) (fun z => c_54 (hy_53.symm.trans z)), kP1_n (k := 0) (fun z => c_76 (hy_75.symm.trans z))], (kUpB (by omega) ef_80 ex_79 hy_75 (kUpB (by omega) ef_69 ex_68 hy_53 (kUpB (by omega) ef_47 ex_46 hy_9 hbt))), (kUp8 (kUp8 (kUp8 hb8))), by omega⟩,  by rw [ht]; exact hP9, va_K.moved hW.alike hK9, hD9⟩, hS.F ht⟩) hS.2.2 dX8_append_58
  · refine lv_aload_n hx hb dX8_append_19 rfl (lv_at hl 2 rfl) ?_
    refine va_get (D := (dC, dI)) (ci := 8) (v := .int (nI (kt))) (C := RX8) (T := TX8) (N := 2) hx hb hts (fun _ h => List.mem_cons_of_mem _ (List.mem_append_right _ h)) hown hK hP 0 rfl rfl 1 kc_l_1_2 (hts (.fieldLink RX8 15 "NotEnded$Tape" "length" "I") (List.mem_cons_of_mem _ (List.mem_append_left _ (List.mem_of_getElem? (i := 0) rfl)))) (fun _ h9 => h9) rfl dX8_append_20 ?_
    refine lv_aload_n hx hb dX8_append_23 rfl (lv_at hl 2 rfl) ?_
    refine va_get (D := (dC, dI)) (ci := 8) (v := .ref t0) (C := RX8) (T := TX8) (N := 2) hx hb hts (fun _ h => List.mem_cons_of_mem _ (List.mem_append_right _ h)) hown hK hP 0 rfl rfl 0 kc_l_0_2 (hts (.fieldLink RX8 9 "NotEnded$Tape" "signs" "[C") (List.mem_cons_of_mem _ (List.mem_append_left _ (List.mem_of_getElem? (i := 1) rfl)))) (fun _ h9 => h9) rfl dX8_append_24 ?_
    refine va_alen hx hb hK hP 1 0 rfl rfl (v := 120) rfl dX8_append_27 ?_
    have hy_4_c : kC1 p0 24 = 1 := by simp [kC1, hy_4, c_5]
    refine lv_icmp_ge (tgt := 52) hx hb dX8_append_28 kc_t_28_24 (fun c_84 => absurd c_84 (nI_ge (a := kt) (b := 120) (by omega) (by decide))) (fun c_84 => ?_)
    refine lv_aload_n hx hb dX8_append_31 rfl (lv_at hl 2 rfl) ?_
    refine va_get (D := (dC, dI)) (ci := 8) (v := .ref t0) (C := RX8) (T := TX8) (N := 2) hx hb hts (fun _ h => List.mem_cons_of_mem _ (List.mem_append_right _ h)) hown hK hP 0 rfl rfl 0 kc_l_0_2 (hts (.fieldLink RX8 9 "NotEnded$Tape" "signs" "[C") (List.mem_cons_of_mem _ (List.mem_append_left _ (List.mem_of_getElem? (i := 1) rfl)))) (fun _ h9 => h9) rfl dX8_append_32 ?_
    refine lv_aload_n hx hb dX8_append_35 rfl (lv_at hl 2 rfl) ?_
    refine va_get (D := (dC, dI)) (ci := 8) (v := .int (nI (kt))) (C := RX8) (T := TX8) (N := 2) hx hb hts (fun _ h => List.mem_cons_of_mem _ (List.mem_append_right _ h)) hown hK hP 0 rfl rfl 1 kc_l_1_2 (hts (.fieldLink RX8 15 "NotEnded$Tape" "length" "I") (List.mem_cons_of_mem _ (List.mem_append_left _ (List.mem_of_getElem? (i := 0) rfl)))) (fun _ h9 => h9) rfl dX8_append_36 ?_
    refine lv_iload_n hx hb dX8_append_39 rfl (lv_at hl 0 rfl) ?_
    obtain ⟨x_85, ex_85⟩ : ∃ z : Int32, z = (Int32.toUInt32 x_3 % 65536).toInt32 := ⟨_, rfl⟩
    refine lv_i2c (v := x_85) hx hb dX8_append_40 ex_85.symm ?_
    have bd_87 : kt < 120 := by omega
    refine va_cast hx hb hK hP hD hS 1 0 rfl rfl (vp_in_nI (n := kt) (N := 120) bd_87 kc_31_120) dX8_append_41 (fun H locs hP hD hS => ?_)
    obtain ⟨f_86, ef_86⟩ : ∃ gg9 : Nat → Int32, gg9 = upd gT (Int32.toNatClampNeg (nI (kt))) (vp_nar .char x_85) := ⟨_, rfl⟩
    have hPD : kPD dC dI A [(jT, .inr (8, [.ref t0, .int (nI (kt))])), (t0, .inl (cC, 120, .inl f_86))] H := by rw [ef_86]; exact ⟨hP, hD⟩
    have hP := hPD.1
    have hD := hPD.2
    refine lv_aload_n hx hb dX8_append_42 rfl (lv_at hl 2 rfl) ?_
    refine lv_dup hx hb dX8_append_43 rfl ?_
    refine va_get (D := (dC, dI)) (ci := 8) (v := .int (nI (kt))) (C := RX8) (T := TX8) (N := 2) hx hb hts (fun _ h => List.mem_cons_of_mem _ (List.mem_append_right _ h)) hown hK hP 0 rfl rfl 1 kc_l_1_2 (hts (.fieldLink RX8 15 "NotEnded$Tape" "length" "I") (List.mem_cons_of_mem _ (List.mem_append_left _ (List.mem_of_getElem? (i := 0) rfl)))) (fun _ h9 => h9) rfl dX8_append_44 ?_
    refine lv_iconst (v := 1) hx hb dX8_append_47 kc_i_1 ?_
    refine lv_iadd hx hb dX8_append_48 ?_
    refine lv_topi (fun y_88 ey_88 => ?_)
    obtain rfl : y_88 = nI (kt + 1) := ey_88.trans (nI_add (kt) (1))
    refine va_put (D := (dC, dI)) (ci := 8) (v := .int (nI (kt + 1))) (ty := tyX8 1) (C := RX8) (T := TX8) (N := 2) hx hb hts (fun _ h => List.mem_cons_of_mem _ (List.mem_append_right _ h)) tyX8 tyX8_ok nmX8 hown hK hP hD hS 0 rfl rfl 1 kc_l_1_2 (hts (.fieldLink RX8 15 "NotEnded$Tape" "length" "I") (List.mem_cons_of_mem _ (List.mem_append_left _ (List.mem_of_getElem? (i := 0) rfl)))) (fun _ h9 => h9) rfl (tyX8_ok 1 kc_l_1_2) rfl rfl (Nat.le_of_ble_eq_true rfl) dX8_append_49 (fun H locs hP hD hS => ?_)
    have hPD : kPD dC dI A [(jT, .inr (8, [.ref t0, .int (nI (kt + 1))])), (t0, .inl (cC, 120, .inl f_86))] H := ⟨hP, hD⟩
    have hP := hPD.1
    have hD := hPD.2
    refine lv_iinc (v := 16) hx hb dX8_append_52 hl (k := 1) rfl (by decide) kc_l_2_4 (kTo [(2, .int 16), (3, .int x_3), (0, .ref jT), (1, .int p0)]) (fun ls hl => ?_)
    refine lv_goto (tgt := 3) hx hb dX8_append_55 kc_t_55_m52 ?_
    refine lv_iload_n hx hb dX8_append_3 rfl (lv_at hl 0 rfl) ?_
    refine lv_if_lt (tgt := 58) hx hb dX8_append_4 kc_t_4_54 (fun c_89 => absurd c_89 (by decide)) (fun c_89 => ?_)
    refine lv_iload_n hx hb dX8_append_7 rfl (lv_at hl 3 rfl) ?_
    refine lv_iload_n hx hb dX8_append_8 rfl (lv_at hl 0 rfl) ?_
    obtain ⟨x_90, ex_90⟩ : ∃ z : Int32, z = (Int32.toUInt32 p0 >>> (Int32.toUInt32 16 &&& Int32.toUInt32 31)).toInt32 := ⟨_, rfl⟩
    refine lv_iushr (v := x_90) hx hb dX8_append_9 ex_90.symm ?_
    refine lv_sipush (v := 255) hx hb dX8_append_10 kc_s_255 ?_
    refine lv_iand hx hb dX8_append_13 ?_
    refine lv_topi (fun x_91 ex_91 => ?_)
    refine lv_istore_n hx hb dX8_append_14 rfl hl kc_l_3_4 (kTo [(3, .int x_91), (2, .int 16), (0, .ref jT), (1, .int p0)]) (fun ls hl => ?_)
    refine lv_iload_n hx hb dX8_append_15 rfl (lv_at hl 0 rfl) ?_
    have hy_92 : kS p0 16 = x_91 := by rw [ex_91, ex_90]; exact (kSu16 p0).symm
    refine lv_if_eq (tgt := 52) hx hb dX8_append_16 kc_t_16_36 (fun c_93 => ?_) (fun c_93 => ?_)
    · refine lv_iinc (v := 8) hx hb dX8_append_52 hl (k := 1) rfl (by decide) kc_l_2_4 (kTo [(2, .int 8), (3, .int x_91), (0, .ref jT), (1, .int p0)]) (fun ls hl => ?_)
      refine lv_goto (tgt := 3) hx hb dX8_append_55 kc_t_55_m52 ?_
      refine lv_iload_n hx hb dX8_append_3 rfl (lv_at hl 0 rfl) ?_
      refine lv_if_lt (tgt := 58) hx hb dX8_append_4 kc_t_4_54 (fun c_94 => absurd c_94 (by decide)) (fun c_94 => ?_)
      refine lv_iload_n hx hb dX8_append_7 rfl (lv_at hl 3 rfl) ?_
      refine lv_iload_n hx hb dX8_append_8 rfl (lv_at hl 0 rfl) ?_
      obtain ⟨x_95, ex_95⟩ : ∃ z : Int32, z = (Int32.toUInt32 p0 >>> (Int32.toUInt32 8 &&& Int32.toUInt32 31)).toInt32 := ⟨_, rfl⟩
      refine lv_iushr (v := x_95) hx hb dX8_append_9 ex_95.symm ?_
      refine lv_sipush (v := 255) hx hb dX8_append_10 kc_s_255 ?_
      refine lv_iand hx hb dX8_append_13 ?_
      refine lv_topi (fun x_96 ex_96 => ?_)
      refine lv_istore_n hx hb dX8_append_14 rfl hl kc_l_3_4 (kTo [(3, .int x_96), (2, .int 8), (0, .ref jT), (1, .int p0)]) (fun ls hl => ?_)
      refine lv_iload_n hx hb dX8_append_15 rfl (lv_at hl 0 rfl) ?_
      have hy_97 : kS p0 8 = x_96 := by rw [ex_96, ex_95]; exact (kSu8 p0).symm
      refine lv_if_eq (tgt := 52) hx hb dX8_append_16 kc_t_16_36 (fun c_98 => ?_) (fun c_98 => ?_)
      · refine lv_iinc (v := 0) hx hb dX8_append_52 hl (k := 1) rfl (by decide) kc_l_2_4 (kTo [(2, .int 0), (3, .int x_96), (0, .ref jT), (1, .int p0)]) (fun ls hl => ?_)
        refine lv_goto (tgt := 3) hx hb dX8_append_55 kc_t_55_m52 ?_
        refine lv_iload_n hx hb dX8_append_3 rfl (lv_at hl 0 rfl) ?_
        refine lv_if_lt (tgt := 58) hx hb dX8_append_4 kc_t_4_54 (fun c_99 => absurd c_99 (by decide)) (fun c_99 => ?_)
        refine lv_iload_n hx hb dX8_append_7 rfl (lv_at hl 3 rfl) ?_
        refine lv_iload_n hx hb dX8_append_8 rfl (lv_at hl 0 rfl) ?_
        obtain ⟨x_100, ex_100⟩ : ∃ z : Int32, z = (Int32.toUInt32 p0 >>> (Int32.toUInt32 0 &&& Int32.toUInt32 31)).toInt32 := ⟨_, rfl⟩
        refine lv_iushr (v := x_100) hx hb dX8_append_9 ex_100.symm ?_
        refine lv_sipush (v := 255) hx hb dX8_append_10 kc_s_255 ?_
        refine lv_iand hx hb dX8_append_13 ?_
        refine lv_topi (fun x_101 ex_101 => ?_)
        refine lv_istore_n hx hb dX8_append_14 rfl hl kc_l_3_4 (kTo [(3, .int x_101), (2, .int 0), (0, .ref jT), (1, .int p0)]) (fun ls hl => ?_)
        refine lv_iload_n hx hb dX8_append_15 rfl (lv_at hl 0 rfl) ?_
        have hy_102 : kS p0 0 = x_101 := by rw [ex_101, ex_100]; exact (kSu0 p0).symm
        refine lv_if_eq (tgt := 52) hx hb dX8_append_16 kc_t_16_36 (fun c_103 => ?_) (fun c_103 => ?_)
        · refine lv_iinc (v := (-8)) hx hb dX8_append_52 hl (k := 1) rfl (by decide) kc_l_2_4 (kTo [(2, .int (-8)), (3, .int x_101), (0, .ref jT), (1, .int p0)]) (fun ls hl => ?_)
          refine lv_goto (tgt := 3) hx hb dX8_append_55 kc_t_55_m52 ?_
          refine lv_iload_n hx hb dX8_append_3 rfl (lv_at hl 0 rfl) ?_
          refine lv_if_lt (tgt := 58) hx hb dX8_append_4 kc_t_4_54 (fun c_104 => ?_) (fun c_104 => absurd (by decide) c_104)
          have hk8 : kCnt p0 = 1 := by simp [kCnt, kC1, hy_4, hy_92, hy_97, hy_102, c_5, c_93, c_98, c_103]
          have hP9 := hP
          have hD9 := hD
          have hK9 := hK
          rw [hQ]
          exact W.vret hx hb hr (fun t ht hW => ⟨⟨(f_86, (kt + 1), (kUpN bt kt (kSn p0 24))), rfl, ⟨by unfold kPut; rw [kP1_n (k := 24) (fun z => c_5 (hy_4.symm.trans z)), kP1_z (k := 16) (hy_92.trans c_93), kP1_z (k := 8) (hy_97.trans c_98), kP1_z (k := 0) (hy_102.trans c_103)], (kUpB (by omega) ef_86 ex_85 hy_4 hbt), (kUp8 hb8), by omega⟩,  by rw [ht]; exact hP9, va_K.moved hW.alike hK9, hD9⟩, hS.F ht⟩) hS.2.2 dX8_append_58
        · refine lv_aload_n hx hb dX8_append_19 rfl (lv_at hl 2 rfl) ?_
          refine va_get (D := (dC, dI)) (ci := 8) (v := .int (nI (kt + 1))) (C := RX8) (T := TX8) (N := 2) hx hb hts (fun _ h => List.mem_cons_of_mem _ (List.mem_append_right _ h)) hown hK hP 0 rfl rfl 1 kc_l_1_2 (hts (.fieldLink RX8 15 "NotEnded$Tape" "length" "I") (List.mem_cons_of_mem _ (List.mem_append_left _ (List.mem_of_getElem? (i := 0) rfl)))) (fun _ h9 => h9) rfl dX8_append_20 ?_
          refine lv_aload_n hx hb dX8_append_23 rfl (lv_at hl 2 rfl) ?_
          refine va_get (D := (dC, dI)) (ci := 8) (v := .ref t0) (C := RX8) (T := TX8) (N := 2) hx hb hts (fun _ h => List.mem_cons_of_mem _ (List.mem_append_right _ h)) hown hK hP 0 rfl rfl 0 kc_l_0_2 (hts (.fieldLink RX8 9 "NotEnded$Tape" "signs" "[C") (List.mem_cons_of_mem _ (List.mem_append_left _ (List.mem_of_getElem? (i := 1) rfl)))) (fun _ h9 => h9) rfl dX8_append_24 ?_
          refine va_alen hx hb hK hP 1 0 rfl rfl (v := 120) rfl dX8_append_27 ?_
          have hy_102_c : kC1 p0 0 = 1 := by simp [kC1, hy_102, c_103]
          refine lv_icmp_ge (tgt := 52) hx hb dX8_append_28 kc_t_28_24 (fun c_105 => absurd c_105 (nI_ge (a := kt + 1) (b := 120) (by omega) (by decide))) (fun c_105 => ?_)
          refine lv_aload_n hx hb dX8_append_31 rfl (lv_at hl 2 rfl) ?_
          refine va_get (D := (dC, dI)) (ci := 8) (v := .ref t0) (C := RX8) (T := TX8) (N := 2) hx hb hts (fun _ h => List.mem_cons_of_mem _ (List.mem_append_right _ h)) hown hK hP 0 rfl rfl 0 kc_l_0_2 (hts (.fieldLink RX8 9 "NotEnded$Tape" "signs" "[C") (List.mem_cons_of_mem _ (List.mem_append_left _ (List.mem_of_getElem? (i := 1) rfl)))) (fun _ h9 => h9) rfl dX8_append_32 ?_
          refine lv_aload_n hx hb dX8_append_35 rfl (lv_at hl 2 rfl) ?_
          refine va_get (D := (dC, dI)) (ci := 8) (v := .int (nI (kt + 1))) (C := RX8) (T := TX8) (N := 2) hx hb hts (fun _ h => List.mem_cons_of_mem _ (List.mem_append_right _ h)) hown hK hP 0 rfl rfl 1 kc_l_1_2 (hts (.fieldLink RX8 15 "NotEnded$Tape" "length" "I") (List.mem_cons_of_mem _ (List.mem_append_left _ (List.mem_of_getElem? (i := 0) rfl)))) (fun _ h9 => h9) rfl dX8_append_36 ?_
          refine lv_iload_n hx hb dX8_append_39 rfl (lv_at hl 0 rfl) ?_
          obtain ⟨x_106, ex_106⟩ : ∃ z : Int32, z = (Int32.toUInt32 x_101 % 65536).toInt32 := ⟨_, rfl⟩
          refine lv_i2c (v := x_106) hx hb dX8_append_40 ex_106.symm ?_
          have bd_108 : kt + 1 < 120 := by omega
          refine va_cast hx hb hK hP hD hS 1 0 rfl rfl (vp_in_nI (n := kt + 1) (N := 120) bd_108 kc_31_120) dX8_append_41 (fun H locs hP hD hS => ?_)
          obtain ⟨f_107, ef_107⟩ : ∃ gg9 : Nat → Int32, gg9 = upd f_86 (Int32.toNatClampNeg (nI (kt + 1))) (vp_nar .char x_106) := ⟨_, rfl⟩
          have hPD : kPD dC dI A [(jT, .inr (8, [.ref t0, .int (nI (kt + 1))])), (t0, .inl (cC, 120, .inl f_107))] H := by rw [ef_107]; exact ⟨hP, hD⟩
          have hP := hPD.1
          have hD := hPD.2
          refine lv_aload_n hx hb dX8_append_42 rfl (lv_at hl 2 rfl) ?_
          refine lv_dup hx hb dX8_append_43 rfl ?_
          refine va_get (D := (dC, dI)) (ci := 8) (v := .int (nI (kt + 1))) (C := RX8) (T := TX8) (N := 2) hx hb hts (fun _ h => List.mem_cons_of_mem _ (List.mem_append_right _ h)) hown hK hP 0 rfl rfl 1 kc_l_1_2 (hts (.fieldLink RX8 15 "NotEnded$Tape" "length" "I") (List.mem_cons_of_mem _ (List.mem_append_left _ (List.mem_of_getElem? (i := 0) rfl)))) (fun _ h9 => h9) rfl dX8_append_44 ?_
          refine lv_iconst (v := 1) hx hb dX8_append_47 kc_i_1 ?_
          refine lv_iadd hx hb dX8_append_48 ?_
          refine lv_topi (fun y_109 ey_109 => ?_)
          obtain rfl : y_109 = nI (kt + 1 + 1) := ey_109.trans (nI_add (kt + 1) (1))
          refine va_put (D := (dC, dI)) (ci := 8) (v := .int (nI (kt + 1 + 1))) (ty := tyX8 1) (C := RX8) (T := TX8) (N := 2) hx hb hts (fun _ h => List.mem_cons_of_mem _ (List.mem_append_right _ h)) tyX8 tyX8_ok nmX8 hown hK hP hD hS 0 rfl rfl 1 kc_l_1_2 (hts (.fieldLink RX8 15 "NotEnded$Tape" "length" "I") (List.mem_cons_of_mem _ (List.mem_append_left _ (List.mem_of_getElem? (i := 0) rfl)))) (fun _ h9 => h9) rfl (tyX8_ok 1 kc_l_1_2) rfl rfl (Nat.le_of_ble_eq_true rfl) dX8_append_49 (fun H locs hP hD hS => ?_)
          have hPD : kPD dC dI A [(jT, .inr (8, [.ref t0, .int (nI (kt + 1 + 1))])), (t0, .inl (cC, 120, .inl f_107))] H := ⟨hP, hD⟩
          have hP := hPD.1
          have hD := hPD.2
          refine lv_iinc (v := (-8)) hx hb dX8_append_52 hl (k := 1) rfl (by decide) kc_l_2_4 (kTo [(2, .int (-8)), (3, .int x_101), (0, .ref jT), (1, .int p0)]) (fun ls hl => ?_)
          refine lv_goto (tgt := 3) hx hb dX8_append_55 kc_t_55_m52 ?_
          refine lv_iload_n hx hb dX8_append_3 rfl (lv_at hl 0 rfl) ?_
          refine lv_if_lt (tgt := 58) hx hb dX8_append_4 kc_t_4_54 (fun c_110 => ?_) (fun c_110 => absurd (by decide) c_110)
          have hk8 : kCnt p0 = 2 := by simp [kCnt, kC1, hy_4, hy_92, hy_97, hy_102, c_5, c_93, c_98, c_103]
          have hP9 := hP
          have hD9 := hD
          have hK9 := hK
          rw [hQ]
          exact W.vret hx hb hr (fun t ht hW => ⟨⟨(f_107, (kt + 1 + 1), (kUpN (kUpN bt kt (kSn p0 24)) (kt + 1) (kSn p0 0))), rfl, ⟨by unfold kPut; rw [kP1_n (k := 24) (fun z => c_5 (hy_4.symm.trans z)), kP1_z (k := 16) (hy_92.trans c_93), kP1_z (k := 8) (hy_97.trans c_98), kP1_n (k := 0) (fun z => c_103 (hy_102.symm.trans z))], (kUpB (by omega) ef_107 ex_106 hy_102 (kUpB (by omega) ef_86 ex_85 hy_4 hbt)), (kUp8 (kUp8 hb8)), by omega⟩,  by rw [ht]; exact hP9, va_K.moved hW.alike hK9, hD9⟩, hS.F ht⟩) hS.2.2 dX8_append_58
      · refine lv_aload_n hx hb dX8_append_19 rfl (lv_at hl 2 rfl) ?_
        refine va_get (D := (dC, dI)) (ci := 8) (v := .int (nI (kt + 1))) (C := RX8) (T := TX8) (N := 2) hx hb hts (fun _ h => List.mem_cons_of_mem _ (List.mem_append_right _ h)) hown hK hP 0 rfl rfl 1 kc_l_1_2 (hts (.fieldLink RX8 15 "NotEnded$Tape" "length" "I") (List.mem_cons_of_mem _ (List.mem_append_left _ (List.mem_of_getElem? (i := 0) rfl)))) (fun _ h9 => h9) rfl dX8_append_20 ?_
        refine lv_aload_n hx hb dX8_append_23 rfl (lv_at hl 2 rfl) ?_
        refine va_get (D := (dC, dI)) (ci := 8) (v := .ref t0) (C := RX8) (T := TX8) (N := 2) hx hb hts (fun _ h => List.mem_cons_of_mem _ (List.mem_append_right _ h)) hown hK hP 0 rfl rfl 0 kc_l_0_2 (hts (.fieldLink RX8 9 "NotEnded$Tape" "signs" "[C") (List.mem_cons_of_mem _ (List.mem_append_left _ (List.mem_of_getElem? (i := 1) rfl)))) (fun _ h9 => h9) rfl dX8_append_24 ?_
        refine va_alen hx hb hK hP 1 0 rfl rfl (v := 120) rfl dX8_append_27 ?_
        have hy_97_c : kC1 p0 8 = 1 := by simp [kC1, hy_97, c_98]
        refine lv_icmp_ge (tgt := 52) hx hb dX8_append_28 kc_t_28_24 (fun c_111 => absurd c_111 (nI_ge (a := kt + 1) (b := 120) (by omega) (by decide))) (fun c_111 => ?_)
        refine lv_aload_n hx hb dX8_append_31 rfl (lv_at hl 2 rfl) ?_
        refine va_get (D := (dC, dI)) (ci := 8) (v := .ref t0) (C := RX8) (T := TX8) (N := 2) hx hb hts (fun _ h => List.mem_cons_of_mem _ (List.mem_append_right _ h)) hown hK hP 0 rfl rfl 0 kc_l_0_2 (hts (.fieldLink RX8 9 "NotEnded$Tape" "signs" "[C") (List.mem_cons_of_mem _ (List.mem_append_left _ (List.mem_of_getElem? (i := 1) rfl)))) (fun _ h9 => h9) rfl dX8_append_32 ?_
        refine lv_aload_n hx hb dX8_append_35 rfl (lv_at hl 2 rfl) ?_
        refine va_get (D := (dC, dI)) (ci := 8) (v := .int (nI (kt + 1))) (C := RX8) (T := TX8) (N := 2) hx hb hts (fun _ h => List.mem_cons_of_mem _ (List.mem_append_right _ h)) hown hK hP 0 rfl rfl 1 kc_l_1_2 (hts (.fieldLink RX8 15 "NotEnded$Tape" "length" "I") (List.mem_cons_of_mem _ (List.mem_append_left _ (List.mem_of_getElem? (i := 0) rfl)))) (fun _ h9 => h9) rfl dX8_append_36 ?_
        refine lv_iload_n hx hb dX8_append_39 rfl (lv_at hl 0 rfl) ?_
        obtain ⟨x_112, ex_112⟩ : ∃ z : Int32, z = (Int32.toUInt32 x_96 % 65536).toInt32 := ⟨_, rfl⟩
        refine lv_i2c (v := x_112) hx hb dX8_append_40 ex_112.symm ?_
        have bd_114 : kt + 1 < 120 := by omega
        refine va_cast hx hb hK hP hD hS 1 0 rfl rfl (vp_in_nI (n := kt + 1) (N := 120) bd_114 kc_31_120) dX8_append_41 (fun H locs hP hD hS => ?_)
        obtain ⟨f_113, ef_113⟩ : ∃ gg9 : Nat → Int32, gg9 = upd f_86 (Int32.toNatClampNeg (nI (kt + 1))) (vp_nar .char x_112) := ⟨_, rfl⟩
        have hPD : kPD dC dI A [(jT, .inr (8, [.ref t0, .int (nI (kt + 1))])), (t0, .inl (cC, 120, .inl f_113))] H := by rw [ef_113]; exact ⟨hP, hD⟩
        have hP := hPD.1
        have hD := hPD.2
        refine lv_aload_n hx hb dX8_append_42 rfl (lv_at hl 2 rfl) ?_
        refine lv_dup hx hb dX8_append_43 rfl ?_
        refine va_get (D := (dC, dI)) (ci := 8) (v := .int (nI (kt + 1))) (C := RX8) (T := TX8) (N := 2) hx hb hts (fun _ h => List.mem_cons_of_mem _ (List.mem_append_right _ h)) hown hK hP 0 rfl rfl 1 kc_l_1_2 (hts (.fieldLink RX8 15 "NotEnded$Tape" "length" "I") (List.mem_cons_of_mem _ (List.mem_append_left _ (List.mem_of_getElem? (i := 0) rfl)))) (fun _ h9 => h9) rfl dX8_append_44 ?_
        refine lv_iconst (v := 1) hx hb dX8_append_47 kc_i_1 ?_
        refine lv_iadd hx hb dX8_append_48 ?_
        refine lv_topi (fun y_115 ey_115 => ?_)
        obtain rfl : y_115 = nI (kt + 1 + 1) := ey_115.trans (nI_add (kt + 1) (1))
        refine va_put (D := (dC, dI)) (ci := 8) (v := .int (nI (kt + 1 + 1))) (ty := tyX8 1) (C := RX8) (T := TX8) (N := 2) hx hb hts (fun _ h => List.mem_cons_of_mem _ (List.mem_append_right _ h)) tyX8 tyX8_ok nmX8 hown hK hP hD hS 0 rfl rfl 1 kc_l_1_2 (hts (.fieldLink RX8 15 "NotEnded$Tape" "length" "I") (List.mem_cons_of_mem _ (List.mem_append_left _ (List.mem_of_getElem? (i := 0) rfl)))) (fun _ h9 => h9) rfl (tyX8_ok 1 kc_l_1_2) rfl rfl (Nat.le_of_ble_eq_true rfl) dX8_append_49 (fun H locs hP hD hS => ?_)
        have hPD : kPD dC dI A [(jT, .inr (8, [.ref t0, .int (nI (kt + 1 + 1))])), (t0, .inl (cC, 120, .inl f_113))] H := ⟨hP, hD⟩
        have hP := hPD.1
        have hD := hPD.2
        refine lv_iinc (v := 0) hx hb dX8_append_52 hl (k := 1) rfl (by decide) kc_l_2_4 (kTo [(2, .int 0), (3, .int x_96), (0, .ref jT), (1, .int p0)]) (fun ls hl => ?_)
        refine lv_goto (tgt := 3) hx hb dX8_append_55 kc_t_55_m52 ?_
        refine lv_iload_n hx hb dX8_append_3 rfl (lv_at hl 0 rfl) ?_
        refine lv_if_lt (tgt := 58) hx hb dX8_append_4 kc_t_4_54 (fun c_116 => absurd c_116 (by decide)) (fun c_116 => ?_)
        refine lv_iload_n hx hb dX8_append_7 rfl (lv_at hl 3 rfl) ?_
        refine lv_iload_n hx hb dX8_append_8 rfl (lv_at hl 0 rfl) ?_
        obtain ⟨x_117, ex_117⟩ : ∃ z : Int32, z = (Int32.toUInt32 p0 >>> (Int32.toUInt32 0 &&& Int32.toUInt32 31)).toInt32 := ⟨_, rfl⟩
        refine lv_iushr (v := x_117) hx hb dX8_append_9 ex_117.symm ?_
        refine lv_sipush (v := 255) hx hb dX8_append_10 kc_s_255 ?_
        refine lv_iand hx hb dX8_append_13 ?_
        refine lv_topi (fun x_118 ex_118 => ?_)
        refine lv_istore_n hx hb dX8_append_14 rfl hl kc_l_3_4 (kTo [(3, .int x_118), (2, .int 0), (0, .ref jT), (1, .int p0)]) (fun ls hl => ?_)
        refine lv_iload_n hx hb dX8_append_15 rfl (lv_at hl 0 rfl) ?_
        have hy_119 : kS p0 0 = x_118 := by rw [ex_118, ex_117]; exact (kSu0 p0).symm
        refine lv_if_eq (tgt := 52) hx hb dX8_append_16 kc_t_16_36 (fun c_120 => ?_) (fun c_120 => ?_)
        · refine lv_iinc (v := (-8)) hx hb dX8_append_52 hl (k := 1) rfl (by decide) kc_l_2_4 (kTo [(2, .int (-8)), (3, .int x_118), (0, .ref jT), (1, .int p0)]) (fun ls hl => ?_)
          refine lv_goto (tgt := 3) hx hb dX8_append_55 kc_t_55_m52 ?_
          refine lv_iload_n hx hb dX8_append_3 rfl (lv_at hl 0 rfl) ?_
          refine lv_if_lt (tgt := 58) hx hb dX8_append_4 kc_t_4_54 (fun c_121 => ?_) (fun c_121 => absurd (by decide) c_121)
          have hk8 : kCnt p0 = 2 := by simp [kCnt, kC1, hy_4, hy_92, hy_97, hy_119, c_5, c_93, c_98, c_120]
          have hP9 := hP
          have hD9 := hD
          have hK9 := hK
          rw [hQ]
          exact W.vret hx hb hr (fun t ht hW => ⟨⟨(f_113, (kt + 1 + 1), (kUpN (kUpN bt kt (kSn p0 24)) (kt + 1) (kSn p0 8))), rfl, ⟨by unfold kPut; rw [kP1_n (k := 24) (fun z => c_5 (hy_4.symm.trans z)), kP1_z (k := 16) (hy_92.trans c_93), kP1_n (k := 8) (fun z => c_98 (hy_97.symm.trans z)), kP1_z (k := 0) (hy_119.trans c_120)], (kUpB (by omega) ef_113 ex_112 hy_97 (kUpB (by omega) ef_86 ex_85 hy_4 hbt)), (kUp8 (kUp8 hb8)), by omega⟩,  by rw [ht]; exact hP9, va_K.moved hW.alike hK9, hD9⟩, hS.F ht⟩) hS.2.2 dX8_append_58
        · refine lv_aload_n hx hb dX8_append_19 rfl (lv_at hl 2 rfl) ?_
          refine va_get (D := (dC, dI)) (ci := 8) (v := .int (nI (kt + 1 + 1))) (C := RX8) (T := TX8) (N := 2) hx hb hts (fun _ h => List.mem_cons_of_mem _ (List.mem_append_right _ h)) hown hK hP 0 rfl rfl 1 kc_l_1_2 (hts (.fieldLink RX8 15 "NotEnded$Tape" "length" "I") (List.mem_cons_of_mem _ (List.mem_append_left _ (List.mem_of_getElem? (i := 0) rfl)))) (fun _ h9 => h9) rfl dX8_append_20 ?_
          refine lv_aload_n hx hb dX8_append_23 rfl (lv_at hl 2 rfl) ?_
          refine va_get (D := (dC, dI)) (ci := 8) (v := .ref t0) (C := RX8) (T := TX8) (N := 2) hx hb hts (fun _ h => List.mem_cons_of_mem _ (List.mem_append_right _ h)) hown hK hP 0 rfl rfl 0 kc_l_0_2 (hts (.fieldLink RX8 9 "NotEnded$Tape" "signs" "[C") (List.mem_cons_of_mem _ (List.mem_append_left _ (List.mem_of_getElem? (i := 1) rfl)))) (fun _ h9 => h9) rfl dX8_append_24 ?_
          refine va_alen hx hb hK hP 1 0 rfl rfl (v := 120) rfl dX8_append_27 ?_
          have hy_119_c : kC1 p0 0 = 1 := by simp [kC1, hy_119, c_120]
          refine lv_icmp_ge (tgt := 52) hx hb dX8_append_28 kc_t_28_24 (fun c_122 => absurd c_122 (nI_ge (a := kt + 1 + 1) (b := 120) (by omega) (by decide))) (fun c_122 => ?_)
          refine lv_aload_n hx hb dX8_append_31 rfl (lv_at hl 2 rfl) ?_
          refine va_get (D := (dC, dI)) (ci := 8) (v := .ref t0) (C := RX8) (T := TX8) (N := 2) hx hb hts (fun _ h => List.mem_cons_of_mem _ (List.mem_append_right _ h)) hown hK hP 0 rfl rfl 0 kc_l_0_2 (hts (.fieldLink RX8 9 "NotEnded$Tape" "signs" "[C") (List.mem_cons_of_mem _ (List.mem_append_left _ (List.mem_of_getElem? (i := 1) rfl)))) (fun _ h9 => h9) rfl dX8_append_32 ?_
          refine lv_aload_n hx hb dX8_append_35 rfl (lv_at hl 2 rfl) ?_
          refine va_get (D := (dC, dI)) (ci := 8) (v := .int (nI (kt + 1 + 1))) (C := RX8) (T := TX8) (N := 2) hx hb hts (fun _ h => List.mem_cons_of_mem _ (List.mem_append_right _ h)) hown hK hP 0 rfl rfl 1 kc_l_1_2 (hts (.fieldLink RX8 15 "NotEnded$Tape" "length" "I") (List.mem_cons_of_mem _ (List.mem_append_left _ (List.mem_of_getElem? (i := 0) rfl)))) (fun _ h9 => h9) rfl dX8_append_36 ?_
          refine lv_iload_n hx hb dX8_append_39 rfl (lv_at hl 0 rfl) ?_
          obtain ⟨x_123, ex_123⟩ : ∃ z : Int32, z = (Int32.toUInt32 x_118 % 65536).toInt32 := ⟨_, rfl⟩
          refine lv_i2c (v := x_123) hx hb dX8_append_40 ex_123.symm ?_
          have bd_125 : kt + 1 + 1 < 120 := by omega
          refine va_cast hx hb hK hP hD hS 1 0 rfl rfl (vp_in_nI (n := kt + 1 + 1) (N := 120) bd_125 kc_31_120) dX8_append_41 (fun H locs hP hD hS => ?_)
          obtain ⟨f_124, ef_124⟩ : ∃ gg9 : Nat → Int32, gg9 = upd f_113 (Int32.toNatClampNeg (nI (kt + 1 + 1))) (vp_nar .char x_123) := ⟨_, rfl⟩
          have hPD : kPD dC dI A [(jT, .inr (8, [.ref t0, .int (nI (kt + 1 + 1))])), (t0, .inl (cC, 120, .inl f_124))] H := by rw [ef_124]; exact ⟨hP, hD⟩
          have hP := hPD.1
          have hD := hPD.2
          refine lv_aload_n hx hb dX8_append_42 rfl (lv_at hl 2 rfl) ?_
          refine lv_dup hx hb dX8_append_43 rfl ?_
          refine va_get (D := (dC, dI)) (ci := 8) (v := .int (nI (kt + 1 + 1))) (C := RX8) (T := TX8) (N := 2) hx hb hts (fun _ h => List.mem_cons_of_mem _ (List.mem_append_right _ h)) hown hK hP 0 rfl rfl 1 kc_l_1_2 (hts (.fieldLink RX8 15 "NotEnded$Tape" "length" "I") (List.mem_cons_of_mem _ (List.mem_append_left _ (List.mem_of_getElem? (i := 0) rfl)))) (fun _ h9 => h9) rfl dX8_append_44 ?_
          refine lv_iconst (v := 1) hx hb dX8_append_47 kc_i_1 ?_
          refine lv_iadd hx hb dX8_append_48 ?_
          refine lv_topi (fun y_126 ey_126 => ?_)
          obtain rfl : y_126 = nI (kt + 1 + 1 + 1) := ey_126.trans (nI_add (kt + 1 + 1) (1))
          refine va_put (D := (dC, dI)) (ci := 8) (v := .int (nI (kt + 1 + 1 + 1))) (ty := tyX8 1) (C := RX8) (T := TX8) (N := 2) hx hb hts (fun _ h => List.mem_cons_of_mem _ (List.mem_append_right _ h)) tyX8 tyX8_ok nmX8 hown hK hP hD hS 0 rfl rfl 1 kc_l_1_2 (hts (.fieldLink RX8 15 "NotEnded$Tape" "length" "I") (List.mem_cons_of_mem _ (List.mem_append_left _ (List.mem_of_getElem? (i := 0) rfl)))) (fun _ h9 => h9) rfl (tyX8_ok 1 kc_l_1_2) rfl rfl (Nat.le_of_ble_eq_true rfl) dX8_append_49 (fun H locs hP hD hS => ?_)
          have hPD : kPD dC dI A [(jT, .inr (8, [.ref t0, .int (nI (kt + 1 + 1 + 1))])), (t0, .inl (cC, 120, .inl f_124))] H := ⟨hP, hD⟩
          have hP := hPD.1
          have hD := hPD.2
          refine lv_iinc (v := (-8)) hx hb dX8_append_52 hl (k := 1) rfl (by decide) kc_l_2_4 (kTo [(2, .int (-8)), (3, .int x_118), (0, .ref jT), (1, .int p0)]) (fun ls hl => ?_)
          refine lv_goto (tgt := 3) hx hb dX8_append_55 kc_t_55_m52 ?_
          refine lv_iload_n hx hb dX8_append_3 rfl (lv_at hl 0 rfl) ?_
          refine lv_if_lt (tgt := 58) hx hb dX8_append_4 kc_t_4_54 (fun c_127 => ?_) (fun c_127 => absurd (by decide) c_127)
          have hk8 : kCnt p0 = 3 := by simp [kCnt, kC1, hy_4, hy_92, hy_97, hy_119, c_5, c_93, c_98, c_120]
          have hP9 := hP
          have hD9 := hD
          have hK9 := hK
          rw [hQ]
          exact W.vret hx hb hr (fun t ht hW => ⟨⟨(f_124, (kt + 1 + 1 + 1), (kUpN (kUpN (kUpN bt kt (kSn p0 24)) (kt + 1) (kSn p0 8)) (kt + 1 + 1) (kSn p0 0))), rfl, ⟨by unfold kPut; rw [kP1_n (k := 24) (fun z => c_5 (hy_4.symm.trans z)), kP1_z (k := 16) (hy_92.trans c_93), kP1_n (k := 8) (fun z => c_98 (hy_97.symm.trans z)), kP1_n (k := 0) (fun z => c_120 (hy_119.symm.trans z))], (kUpB (by omega) ef_124 ex_123 hy_119 (kUpB (by omega) ef_113 ex_112 hy_97 (kUpB (by omega) ef_86 ex_85 hy_4 hbt))), (kUp8 (kUp8 (kUp8 hb8))), by omega⟩,  by rw [ht]; exact hP9, va_K.moved hW.alike hK9, hD9⟩, hS.F ht⟩) hS.2.2 dX8_append_58
    · refine lv_aload_n hx hb dX8_append_19 rfl (lv_at hl 2 rfl) ?_
      refine va_get (D := (dC, dI)) (ci := 8) (v := .int (nI (kt + 1))) (C := RX8) (T := TX8) (N := 2) hx hb hts (fun _ h => List.mem_cons_of_mem _ (List.mem_append_right _ h)) hown hK hP 0 rfl rfl 1 kc_l_1_2 (hts (.fieldLink RX8 15 "NotEnded$Tape" "length" "I") (List.mem_cons_of_mem _ (List.mem_append_left _ (List.mem_of_getElem? (i := 0) rfl)))) (fun _ h9 => h9) rfl dX8_append_20 ?_
      refine lv_aload_n hx hb dX8_append_23 rfl (lv_at hl 2 rfl) ?_
      refine va_get (D := (dC, dI)) (ci := 8) (v := .ref t0) (C := RX8) (T := TX8) (N := 2) hx hb hts (fun _ h => List.mem_cons_of_mem _ (List.mem_append_right _ h)) hown hK hP 0 rfl rfl 0 kc_l_0_2 (hts (.fieldLink RX8 9 "NotEnded$Tape" "signs" "[C") (List.mem_cons_of_mem _ (List.mem_append_left _ (List.mem_of_getElem? (i := 1) rfl)))) (fun _ h9 => h9) rfl dX8_append_24 ?_
      refine va_alen hx hb hK hP 1 0 rfl rfl (v := 120) rfl dX8_append_27 ?_
      have hy_92_c : kC1 p0 16 = 1 := by simp [kC1, hy_92, c_93]
      refine lv_icmp_ge (tgt := 52) hx hb dX8_append_28 kc_t_28_24 (fun c_128 => absurd c_128 (nI_ge (a := kt + 1) (b := 120) (by omega) (by decide))) (fun c_128 => ?_)
      refine lv_aload_n hx hb dX8_append_31 rfl (lv_at hl 2 rfl) ?_
      refine va_get (D := (dC, dI)) (ci := 8) (v := .ref t0) (C := RX8) (T := TX8) (N := 2) hx hb hts (fun _ h => List.mem_cons_of_mem _ (List.mem_append_right _ h)) hown hK hP 0 rfl rfl 0 kc_l_0_2 (hts (.fieldLink RX8 9 "NotEnded$Tape" "signs" "[C") (List.mem_cons_of_mem _ (List.mem_append_left _ (List.mem_of_getElem? (i := 1) rfl)))) (fun _ h9 => h9) rfl dX8_append_32 ?_
      refine lv_aload_n hx hb dX8_append_35 rfl (lv_at hl 2 rfl) ?_
      refine va_get (D := (dC, dI)) (ci := 8) (v := .int (nI (kt + 1))) (C := RX8) (T := TX8) (N := 2) hx hb hts (fun _ h => List.mem_cons_of_mem _ (List.mem_append_right _ h)) hown hK hP 0 rfl rfl 1 kc_l_1_2 (hts (.fieldLink RX8 15 "NotEnded$Tape" "length" "I") (List.mem_cons_of_mem _ (List.mem_append_left _ (List.mem_of_getElem? (i := 0) rfl)))) (fun _ h9 => h9) rfl dX8_append_36 ?_
      refine lv_iload_n hx hb dX8_append_39 rfl (lv_at hl 0 rfl) ?_
      obtain ⟨x_129, ex_129⟩ : ∃ z : Int32, z = (Int32.toUInt32 x_91 % 65536).toInt32 := ⟨_, rfl⟩
      refine lv_i2c (v := x_129) hx hb dX8_append_40 ex_129.symm ?_
      have bd_131 : kt + 1 < 120 := by omega
      refine va_cast hx hb hK hP hD hS 1 0 rfl rfl (vp_in_nI (n := kt + 1) (N := 120) bd_131 kc_31_120) dX8_append_41 (fun H locs hP hD hS => ?_)
      obtain ⟨f_130, ef_130⟩ : ∃ gg9 : Nat → Int32, gg9 = upd f_86 (Int32.toNatClampNeg (nI (kt + 1))) (vp_nar .char x_129) := ⟨_, rfl⟩
      have hPD : kPD dC dI A [(jT, .inr (8, [.ref t0, .int (nI (kt + 1))])), (t0, .inl (cC, 120, .inl f_130))] H := by rw [ef_130]; exact ⟨hP, hD⟩
      have hP := hPD.1
      have hD := hPD.2
      refine lv_aload_n hx hb dX8_append_42 rfl (lv_at hl 2 rfl) ?_
      refine lv_dup hx hb dX8_append_43 rfl ?_
      refine va_get (D := (dC, dI)) (ci := 8) (v := .int (nI (kt + 1))) (C := RX8) (T := TX8) (N := 2) hx hb hts (fun _ h => List.mem_cons_of_mem _ (List.mem_append_right _ h)) hown hK hP 0 rfl rfl 1 kc_l_1_2 (hts (.fieldLink RX8 15 "NotEnded$Tape" "length" "I") (List.mem_cons_of_mem _ (List.mem_append_left _ (List.mem_of_getElem? (i := 0) rfl)))) (fun _ h9 => h9) rfl dX8_append_44 ?_
      refine lv_iconst (v := 1) hx hb dX8_append_47 kc_i_1 ?_
      refine lv_iadd hx hb dX8_append_48 ?_
      refine lv_topi (fun y_132 ey_132 => ?_)
      obtain rfl : y_132 = nI (kt + 1 + 1) := ey_132.trans (nI_add (kt + 1) (1))
      refine va_put (D := (dC, dI)) (ci := 8) (v := .int (nI (kt + 1 + 1))) (ty := tyX8 1) (C := RX8) (T := TX8) (N := 2) hx hb hts (fun _ h => List.mem_cons_of_mem _ (List.mem_append_right _ h)) tyX8 tyX8_ok nmX8 hown hK hP hD hS 0 rfl rfl 1 kc_l_1_2 (hts (.fieldLink RX8 15 "NotEnded$Tape" "length" "I") (List.mem_cons_of_mem _ (List.mem_append_left _ (List.mem_of_getElem? (i := 0) rfl)))) (fun _ h9 => h9) rfl (tyX8_ok 1 kc_l_1_2) rfl rfl (Nat.le_of_ble_eq_true rfl) dX8_append_49 (fun H locs hP hD hS => ?_)
      have hPD : kPD dC dI A [(jT, .inr (8, [.ref t0, .int (nI (kt + 1 + 1))])), (t0, .inl (cC, 120, .inl f_130))] H := ⟨hP, hD⟩
      have hP := hPD.1
      have hD := hPD.2
      refine lv_iinc (v := 8) hx hb dX8_append_52 hl (k := 1) rfl (by decide) kc_l_2_4 (kTo [(2, .int 8), (3, .int x_91), (0, .ref jT), (1, .int p0)]) (fun ls hl => ?_)
      refine lv_goto (tgt := 3) hx hb dX8_append_55 kc_t_55_m52 ?_
      refine lv_iload_n hx hb dX8_append_3 rfl (lv_at hl 0 rfl) ?_
      refine lv_if_lt (tgt := 58) hx hb dX8_append_4 kc_t_4_54 (fun c_133 => absurd c_133 (by decide)) (fun c_133 => ?_)
      refine lv_iload_n hx hb dX8_append_7 rfl (lv_at hl 3 rfl) ?_
      refine lv_iload_n hx hb dX8_append_8 rfl (lv_at hl 0 rfl) ?_
      obtain ⟨x_134, ex_134⟩ : ∃ z : Int32, z = (Int32.toUInt32 p0 >>> (Int32.toUInt32 8 &&& Int32.toUInt32 31)).toInt32 := ⟨_, rfl⟩
      refine lv_iushr (v := x_134) hx hb dX8_append_9 ex_134.symm ?_
      refine lv_sipush (v := 255) hx hb dX8_append_10 kc_s_255 ?_
      refine lv_iand hx hb dX8_append_13 ?_
      refine lv_topi (fun x_135 ex_135 => ?_)
      refine lv_istore_n hx hb dX8_append_14 rfl hl kc_l_3_4 (kTo [(3, .int x_135), (2, .int 8), (0, .ref jT), (1, .int p0)]) (fun ls hl => ?_)
      refine lv_iload_n hx hb dX8_append_15 rfl (lv_at hl 0 rfl) ?_
      have hy_136 : kS p0 8 = x_135 := by rw [ex_135, ex_134]; exact (kSu8 p0).symm
      refine lv_if_eq (tgt := 52) hx hb dX8_append_16 kc_t_16_36 (fun c_137 => ?_) (fun c_137 => ?_)
      · refine lv_iinc (v := 0) hx hb dX8_append_52 hl (k := 1) rfl (by decide) kc_l_2_4 (kTo [(2, .int 0), (3, .int x_135), (0, .ref jT), (1, .int p0)]) (fun ls hl => ?_)
        refine lv_goto (tgt := 3) hx hb dX8_append_55 kc_t_55_m52 ?_
        refine lv_iload_n hx hb dX8_append_3 rfl (lv_at hl 0 rfl) ?_
        refine lv_if_lt (tgt := 58) hx hb dX8_append_4 kc_t_4_54 (fun c_138 => absurd c_138 (by decide)) (fun c_138 => ?_)
        refine lv_iload_n hx hb dX8_append_7 rfl (lv_at hl 3 rfl) ?_
        refine lv_iload_n hx hb dX8_append_8 rfl (lv_at hl 0 rfl) ?_
        obtain ⟨x_139, ex_139⟩ : ∃ z : Int32, z = (Int32.toUInt32 p0 >>> (Int32.toUInt32 0 &&& Int32.toUInt32 31)).toInt32 := ⟨_, rfl⟩
        refine lv_iushr (v := x_139) hx hb dX8_append_9 ex_139.symm ?_
        refine lv_sipush (v := 255) hx hb dX8_append_10 kc_s_255 ?_
        refine lv_iand hx hb dX8_append_13 ?_
        refine lv_topi (fun x_140 ex_140 => ?_)
        refine lv_istore_n hx hb dX8_append_14 rfl hl kc_l_3_4 (kTo [(3, .int x_140), (2, .int 0), (0, .ref jT), (1, .int p0)]) (fun ls hl => ?_)
        refine lv_iload_n hx hb dX8_append_15 rfl (lv_at hl 0 rfl) ?_
        have hy_141 : kS p0 0 = x_140 := by rw [ex_140, ex_139]; exact (kSu0 p0).symm
        refine lv_if_eq (tgt := 52) hx hb dX8_append_16 kc_t_16_36 (fun c_142 => ?_) (fun c_142 => ?_)
        · refine lv_iinc (v := (-8)) hx hb dX8_append_52 hl (k := 1) rfl (by decide) kc_l_2_4 (kTo [(2, .int (-8)), (3, .int x_140), (0, .ref jT), (1, .int p0)]) (fun ls hl => ?_)
          refine lv_goto (tgt := 3) hx hb dX8_append_55 kc_t_55_m52 ?_
          refine lv_iload_n hx hb dX8_append_3 rfl (lv_at hl 0 rfl) ?_
          refine lv_if_lt (tgt := 58) hx hb dX8_append_4 kc_t_4_54 (fun c_143 => ?_) (fun c_143 => absurd (by decide) c_143)
          have hk8 : kCnt p0 = 2 := by simp [kCnt, kC1, hy_4, hy_92, hy_136, hy_141, c_5, c_93, c_137, c_142]
          have hP9 := hP
          have hD9 := hD
          have hK9 := hK
          rw [hQ]
          exact W.vret hx hb hr (fun t ht hW => ⟨⟨(f_130, (kt + 1 + 1), (kUpN (kUpN bt kt (kSn p0 24)) (kt + 1) (kSn p0 16))), rfl, ⟨by unfold kPut; rw [kP1_n (k := 24) (fun z => c_5 (hy_4.symm.trans z)), kP1_n (k := 16) (fun z => c_93 (hy_92.symm.trans z)), kP1_z (k := 8) (hy_136.trans c_137), kP1_z (k := 0) (hy_141.trans c_142)], (kUpB (by omega) ef_130 ex_129 hy_92 (kUpB (by omega) ef_86 ex_85 hy_4 hbt)), (kUp8 (kUp8 hb8)), by omega⟩,  by rw [ht]; exact hP9, va_K.moved hW.alike hK9, hD9⟩, hS.F ht⟩) hS.2.2 dX8_append_58
        · refine lv_aload_n hx hb dX8_append_19 rfl (lv_at hl 2 rfl) ?_
          refine va_get (D := (dC, dI)) (ci := 8) (v := .int (nI (kt + 1 + 1))) (C := RX8) (T := TX8) (N := 2) hx hb hts (fun _ h => List.mem_cons_of_mem _ (List.mem_append_right _ h)) hown hK hP 0 rfl rfl 1 kc_l_1_2 (hts (.fieldLink RX8 15 "NotEnded$Tape" "length" "I") (List.mem_cons_of_mem _ (List.mem_append_left _ (List.mem_of_getElem? (i := 0) rfl)))) (fun _ h9 => h9) rfl dX8_append_20 ?_
          refine lv_aload_n hx hb dX8_append_23 rfl (lv_at hl 2 rfl) ?_
          refine va_get (D := (dC, dI)) (ci := 8) (v := .ref t0) (C := RX8) (T := TX8) (N := 2) hx hb hts (fun _ h => List.mem_cons_of_mem _ (List.mem_append_right _ h)) hown hK hP 0 rfl rfl 0 kc_l_0_2 (hts (.fieldLink RX8 9 "NotEnded$Tape" "signs" "[C") (List.mem_cons_of_mem _ (List.mem_append_left _ (List.mem_of_getElem? (i := 1) rfl)))) (fun _ h9 => h9) rfl dX8_append_24 ?_
          refine va_alen hx hb hK hP 1 0 rfl rfl (v := 120) rfl dX8_append_27 ?_
          have hy_141_c : kC1 p0 0 = 1 := by simp [kC1, hy_141, c_142]
          refine lv_icmp_ge (tgt := 52) hx hb dX8_append_28 kc_t_28_24 (fun c_144 => absurd c_144 (nI_ge (a := kt + 1 + 1) (b := 120) (by omega) (by decide))) (fun c_144 => ?_)
          refine lv_aload_n hx hb dX8_append_31 rfl (lv_at hl 2 rfl) ?_
          refine va_get (D := (dC, dI)) (ci := 8) (v := .ref t0) (C := RX8) (T := TX8) (N := 2) hx hb hts (fun _ h => List.mem_cons_of_mem _ (List.mem_append_right _ h)) hown hK hP 0 rfl rfl 0 kc_l_0_2 (hts (.fieldLink RX8 9 "NotEnded$Tape" "signs" "[C") (List.mem_cons_of_mem _ (List.mem_append_left _ (List.mem_of_getElem? (i := 1) rfl)))) (fun _ h9 => h9) rfl dX8_append_32 ?_
          refine lv_aload_n hx hb dX8_append_35 rfl (lv_at hl 2 rfl) ?_
          refine va_get (D := (dC, dI)) (ci := 8) (v := .int (nI (kt + 1 + 1))) (C := RX8) (T := TX8) (N := 2) hx hb hts (fun _ h => List.mem_cons_of_mem _ (List.mem_append_right _ h)) hown hK hP 0 rfl rfl 1 kc_l_1_2 (hts (.fieldLink RX8 15 "NotEnded$Tape" "length" "I") (List.mem_cons_of_mem _ (List.mem_append_left _ (List.mem_of_getElem? (i := 0) rfl)))) (fun _ h9 => h9) rfl dX8_append_36 ?_
          refine lv_iload_n hx hb dX8_append_39 rfl (lv_at hl 0 rfl) ?_
          obtain ⟨x_145, ex_145⟩ : ∃ z : Int32, z = (Int32.toUInt32 x_140 % 65536).toInt32 := ⟨_, rfl⟩
          refine lv_i2c (v := x_145) hx hb dX8_append_40 ex_145.symm ?_
          have bd_147 : kt + 1 + 1 < 120 := by omega
          refine va_cast hx hb hK hP hD hS 1 0 rfl rfl (vp_in_nI (n := kt + 1 + 1) (N := 120) bd_147 kc_31_120) dX8_append_41 (fun H locs hP hD hS => ?_)
          obtain ⟨f_146, ef_146⟩ : ∃ gg9 : Nat → Int32, gg9 = upd f_130 (Int32.toNatClampNeg (nI (kt + 1 + 1))) (vp_nar .char x_145) := ⟨_, rfl⟩
          have hPD : kPD dC dI A [(jT, .inr (8, [.ref t0, .int (nI (kt + 1 + 1))])), (t0, .inl (cC, 120, .inl f_146))] H := by rw [ef_146]; exact ⟨hP, hD⟩
          have hP := hPD.1
          have hD := hPD.2
          refine lv_aload_n hx hb dX8_append_42 rfl (lv_at hl 2 rfl) ?_
          refine lv_dup hx hb dX8_append_43 rfl ?_
          refine va_get (D := (dC, dI)) (ci := 8) (v := .int (nI (kt + 1 + 1))) (C := RX8) (T := TX8) (N := 2) hx hb hts (fun _ h => List.mem_cons_of_mem _ (List.mem_append_right _ h)) hown hK hP 0 rfl rfl 1 kc_l_1_2 (hts (.fieldLink RX8 15 "NotEnded$Tape" "length" "I") (List.mem_cons_of_mem _ (List.mem_append_left _ (List.mem_of_getElem? (i := 0) rfl)))) (fun _ h9 => h9) rfl dX8_append_44 ?_
          refine lv_iconst (v := 1) hx hb dX8_append_47 kc_i_1 ?_
          refine lv_iadd hx hb dX8_append_48 ?_
          refine lv_topi (fun y_148 ey_148 => ?_)
          obtain rfl : y_148 = nI (kt + 1 + 1 + 1) := ey_148.trans (nI_add (kt + 1 + 1) (1))
          refine va_put (D := (dC, dI)) (ci := 8) (v := .int (nI (kt + 1 + 1 + 1))) (ty := tyX8 1) (C := RX8) (T := TX8) (N := 2) hx hb hts (fun _ h => List.mem_cons_of_mem _ (List.mem_append_right _ h)) tyX8 tyX8_ok nmX8 hown hK hP hD hS 0 rfl rfl 1 kc_l_1_2 (hts (.fieldLink RX8 15 "NotEnded$Tape" "length" "I") (List.mem_cons_of_mem _ (List.mem_append_left _ (List.mem_of_getElem? (i := 0) rfl)))) (fun _ h9 => h9) rfl (tyX8_ok 1 kc_l_1_2) rfl rfl (Nat.le_of_ble_eq_true rfl) dX8_append_49 (fun H locs hP hD hS => ?_)
          have hPD : kPD dC dI A [(jT, .inr (8, [.ref t0, .int (nI (kt + 1 + 1 + 1))])), (t0, .inl (cC, 120, .inl f_146))] H := ⟨hP, hD⟩
          have hP := hPD.1
          have hD := hPD.2
          refine lv_iinc (v := (-8)) hx hb dX8_append_52 hl (k := 1) rfl (by decide) kc_l_2_4 (kTo [(2, .int (-8)), (3, .int x_140), (0, .ref jT), (1, .int p0)]) (fun ls hl => ?_)
          refine lv_goto (tgt := 3) hx hb dX8_append_55 kc_t_55_m52 ?_
          refine lv_iload_n hx hb dX8_append_3 rfl (lv_at hl 0 rfl) ?_
          refine lv_if_lt (tgt := 58) hx hb dX8_append_4 kc_t_4_54 (fun c_149 => ?_) (fun c_149 => absurd (by decide) c_149)
          have hk8 : kCnt p0 = 3 := by simp [kCnt, kC1, hy_4, hy_92, hy_136, hy_141, c_5, c_93, c_137, c_142]
          have hP9 := hP
          have hD9 := hD
          have hK9 := hK
          rw [hQ]
          exact W.vret hx hb hr (fun t ht hW => ⟨⟨(f_146, (kt + 1 + 1 + 1), (kUpN (kUpN (kUpN bt kt (kSn p0 24)) (kt + 1) (kSn p0 16)) (kt + 1 + 1) (kSn p0 0))), rfl, ⟨by unfold kPut; rw [kP1_n (k := 24) (fun z => c_5 (hy_4.symm.trans z)), kP1_n (k := 16) (fun z => c_93 (hy_92.symm.trans z)), kP1_z (k := 8) (hy_136.trans c_137), kP1_n (k := 0) (fun z => c_142 (hy_141.symm.trans z))], (kUpB (by omega) ef_146 ex_145 hy_141 (kUpB (by omega) ef_130 ex_129 hy_92 (kUpB (by omega) ef_86 ex_85 hy_4 hbt))), (kUp8 (kUp8 (kUp8 hb8))), by omega⟩,  by rw [ht]; exact hP9, va_K.moved hW.alike hK9, hD9⟩, hS.F ht⟩) hS.2.2 dX8_append_58
      · refine lv_aload_n hx hb dX8_append_19 rfl (lv_at hl 2 rfl) ?_
        refine va_get (D := (dC, dI)) (ci := 8) (v := .int (nI (kt + 1 + 1))) (C := RX8) (T := TX8) (N := 2) hx hb hts (fun _ h => List.mem_cons_of_mem _ (List.mem_append_right _ h)) hown hK hP 0 rfl rfl 1 kc_l_1_2 (hts (.fieldLink RX8 15 "NotEnded$Tape" "length" "I") (List.mem_cons_of_mem _ (List.mem_append_left _ (List.mem_of_getElem? (i := 0) rfl)))) (fun _ h9 => h9) rfl dX8_append_20 ?_
        refine lv_aload_n hx hb dX8_append_23 rfl (lv_at hl 2 rfl) ?_
        refine va_get (D := (dC, dI)) (ci := 8) (v := .ref t0) (C := RX8) (T := TX8) (N := 2) hx hb hts (fun _ h => List.mem_cons_of_mem _ (List.mem_append_right _ h)) hown hK hP 0 rfl rfl 0 kc_l_0_2 (hts (.fieldLink RX8 9 "NotEnded$Tape" "signs" "[C") (List.mem_cons_of_mem _ (List.mem_append_left _ (List.mem_of_getElem? (i := 1) rfl)))) (fun _ h9 => h9) rfl dX8_append_24 ?_
        refine va_alen hx hb hK hP 1 0 rfl rfl (v := 120) rfl dX8_append_27 ?_
        have hy_136_c : kC1 p0 8 = 1 := by simp [kC1, hy_136, c_137]
        refine lv_icmp_ge (tgt := 52) hx hb dX8_append_28 kc_t_28_24 (fun c_150 => absurd c_150 (nI_ge (a := kt + 1 + 1) (b := 120) (by omega) (by decide))) (fun c_150 => ?_)
        refine lv_aload_n hx hb dX8_append_31 rfl (lv_at hl 2 rfl) ?_
        refine va_get (D := (dC, dI)) (ci := 8) (v := .ref t0) (C := RX8) (T := TX8) (N := 2) hx hb hts (fun _ h => List.mem_cons_of_mem _ (List.mem_append_right _ h)) hown hK hP 0 rfl rfl 0 kc_l_0_2 (hts (.fieldLink RX8 9 "NotEnded$Tape" "signs" "[C") (List.mem_cons_of_mem _ (List.mem_append_left _ (List.mem_of_getElem? (i := 1) rfl)))) (fun _ h9 => h9) rfl dX8_append_32 ?_
        refine lv_aload_n hx hb dX8_append_35 rfl (lv_at hl 2 rfl) ?_
        refine va_get (D := (dC, dI)) (ci := 8) (v := .int (nI (kt + 1 + 1))) (C := RX8) (T := TX8) (N := 2) hx hb hts (fun _ h => List.mem_cons_of_mem _ (List.mem_append_right _ h)) hown hK hP 0 rfl rfl 1 kc_l_1_2 (hts (.fieldLink RX8 15 "NotEnded$Tape" "length" "I") (List.mem_cons_of_mem _ (List.mem_append_left _ (List.mem_of_getElem? (i := 0) rfl)))) (fun _ h9 => h9) rfl dX8_append_36 ?_
        refine lv_iload_n hx hb dX8_append_39 rfl (lv_at hl 0 rfl) ?_
        obtain ⟨x_151, ex_151⟩ : ∃ z : Int32, z = (Int32.toUInt32 x_135 % 65536).toInt32 := ⟨_, rfl⟩
        refine lv_i2c (v := x_151) hx hb dX8_append_40 ex_151.symm ?_
        have bd_153 : kt + 1 + 1 < 120 := by omega
        refine va_cast hx hb hK hP hD hS 1 0 rfl rfl (vp_in_nI (n := kt + 1 + 1) (N := 120) bd_153 kc_31_120) dX8_append_41 (fun H locs hP hD hS => ?_)
        obtain ⟨f_152, ef_152⟩ : ∃ gg9 : Nat → Int32, gg9 = upd f_130 (Int32.toNatClampNeg (nI (kt + 1 + 1))) (vp_nar .char x_151) := ⟨_, rfl⟩
        have hPD : kPD dC dI A [(jT, .inr (8, [.ref t0, .int (nI (kt + 1 + 1))])), (t0, .inl (cC, 120, .inl f_152))] H := by rw [ef_152]; exact ⟨hP, hD⟩
        have hP := hPD.1
        have hD := hPD.2
        refine lv_aload_n hx hb dX8_append_42 rfl (lv_at hl 2 rfl) ?_
        refine lv_dup hx hb dX8_append_43 rfl ?_
        refine va_get (D := (dC, dI)) (ci := 8) (v := .int (nI (kt + 1 + 1))) (C := RX8) (T := TX8) (N := 2) hx hb hts (fun _ h => List.mem_cons_of_mem _ (List.mem_append_right _ h)) hown hK hP 0 rfl rfl 1 kc_l_1_2 (hts (.fieldLink RX8 15 "NotEnded$Tape" "length" "I") (List.mem_cons_of_mem _ (List.mem_append_left _ (List.mem_of_getElem? (i := 0) rfl)))) (fun _ h9 => h9) rfl dX8_append_44 ?_
        refine lv_iconst (v := 1) hx hb dX8_append_47 kc_i_1 ?_
        refine lv_iadd hx hb dX8_append_48 ?_
        refine lv_topi (fun y_154 ey_154 => ?_)
        obtain rfl : y_154 = nI (kt + 1 + 1 + 1) := ey_154.trans (nI_add (kt + 1 + 1) (1))
        refine va_put (D := (dC, dI)) (ci := 8) (v := .int (nI (kt + 1 + 1 + 1))) (ty := tyX8 1) (C := RX8) (T := TX8) (N := 2) hx hb hts (fun _ h => List.mem_cons_of_mem _ (List.mem_append_right _ h)) tyX8 tyX8_ok nmX8 hown hK hP hD hS 0 rfl rfl 1 kc_l_1_2 (hts (.fieldLink RX8 15 "NotEnded$Tape" "length" "I") (List.mem_cons_of_mem _ (List.mem_append_left _ (List.mem_of_getElem? (i := 0) rfl)))) (fun _ h9 => h9) rfl (tyX8_ok 1 kc_l_1_2) rfl rfl (Nat.le_of_ble_eq_true rfl) dX8_append_49 (fun H locs hP hD hS => ?_)
        have hPD : kPD dC dI A [(jT, .inr (8, [.ref t0, .int (nI (kt + 1 + 1 + 1))])), (t0, .inl (cC, 120, .inl f_152))] H := ⟨hP, hD⟩
        have hP := hPD.1
        have hD := hPD.2
        refine lv_iinc (v := 0) hx hb dX8_append_52 hl (k := 1) rfl (by decide) kc_l_2_4 (kTo [(2, .int 0), (3, .int x_135), (0, .ref jT), (1, .int p0)]) (fun ls hl => ?_)
        refine lv_goto (tgt := 3) hx hb dX8_append_55 kc_t_55_m52 ?_
        refine lv_iload_n hx hb dX8_append_3 rfl (lv_at hl 0 rfl) ?_
        refine lv_if_lt (tgt := 58) hx hb dX8_append_4 kc_t_4_54 (fun c_155 => absurd c_155 (by decide)) (fun c_155 => ?_)
        refine lv_iload_n hx hb dX8_append_7 rfl (lv_at hl 3 rfl) ?_
        refine lv_iload_n hx hb dX8_append_8 rfl (lv_at hl 0 rfl) ?_
        obtain ⟨x_156, ex_156⟩ : ∃ z : Int32, z = (Int32.toUInt32 p0 >>> (Int32.toUInt32 0 &&& Int32.toUInt32 31)).toInt32 := ⟨_, rfl⟩
        refine lv_iushr (v := x_156) hx hb dX8_append_9 ex_156.symm ?_
        refine lv_sipush (v := 255) hx hb dX8_append_10 kc_s_255 ?_
        refine lv_iand hx hb dX8_append_13 ?_
        refine lv_topi (fun x_157 ex_157 => ?_)
        refine lv_istore_n hx hb dX8_append_14 rfl hl kc_l_3_4 (kTo [(3, .int x_157), (2, .int 0), (0, .ref jT), (1, .int p0)]) (fun ls hl => ?_)
        refine lv_iload_n hx hb dX8_append_15 rfl (lv_at hl 0 rfl) ?_
        have hy_158 : kS p0 0 = x_157 := by rw [ex_157, ex_156]; exact (kSu0 p0).symm
        refine lv_if_eq (tgt := 52) hx hb dX8_append_16 kc_t_16_36 (fun c_159 => ?_) (fun c_159 => ?_)
        · refine lv_iinc (v := (-8)) hx hb dX8_append_52 hl (k := 1) rfl (by decide) kc_l_2_4 (kTo [(2, .int (-8)), (3, .int x_157), (0, .ref jT), (1, .int p0)]) (fun ls hl => ?_)
          refine lv_goto (tgt := 3) hx hb dX8_append_55 kc_t_55_m52 ?_
          refine lv_iload_n hx hb dX8_append_3 rfl (lv_at hl 0 rfl) ?_
          refine lv_if_lt (tgt := 58) hx hb dX8_append_4 kc_t_4_54 (fun c_160 => ?_) (fun c_160 => absurd (by decide) c_160)
          have hk8 : kCnt p0 = 3 := by simp [kCnt, kC1, hy_4, hy_92, hy_136, hy_158, c_5, c_93, c_137, c_159]
          have hP9 := hP
          have hD9 := hD
          have hK9 := hK
          rw [hQ]
          exact W.vret hx hb hr (fun t ht hW => ⟨⟨(f_152, (kt + 1 + 1 + 1), (kUpN (kUpN (kUpN bt kt (kSn p0 24)) (kt + 1) (kSn p0 16)) (kt + 1 + 1) (kSn p0 8))), rfl, ⟨by unfold kPut; rw [kP1_n (k := 24) (fun z => c_5 (hy_4.symm.trans z)), kP1_n (k := 16) (fun z => c_93 (hy_92.symm.trans z)), kP1_n (k := 8) (fun z => c_137 (hy_136.symm.trans z)), kP1_z (k := 0) (hy_158.trans c_159)], (kUpB (by omega) ef_152 ex_151 hy_136 (kUpB (by omega) ef_130 ex_129 hy_92 (kUpB (by omega) ef_86 ex_85 hy_4 hbt))), (kUp8 (kUp8 (kUp8 hb8))), by omega⟩,  by rw [ht]; exact hP9, va_K.moved hW.alike hK9, hD9⟩, hS.F ht⟩) hS.2.2 dX8_append_58
        · refine lv_aload_n hx hb dX8_append_19 rfl (lv_at hl 2 rfl) ?_
          refine va_get (D := (dC, dI)) (ci := 8) (v := .int (nI (kt + 1 + 1 + 1))) (C := RX8) (T := TX8) (N := 2) hx hb hts (fun _ h => List.mem_cons_of_mem _ (List.mem_append_right _ h)) hown hK hP 0 rfl rfl 1 kc_l_1_2 (hts (.fieldLink RX8 15 "NotEnded$Tape" "length" "I") (List.mem_cons_of_mem _ (List.mem_append_left _ (List.mem_of_getElem? (i := 0) rfl)))) (fun _ h9 => h9) rfl dX8_append_20 ?_
          refine lv_aload_n hx hb dX8_append_23 rfl (lv_at hl 2 rfl) ?_
          refine va_get (D := (dC, dI)) (ci := 8) (v := .ref t0) (C := RX8) (T := TX8) (N := 2) hx hb hts (fun _ h => List.mem_cons_of_mem _ (List.mem_append_right _ h)) hown hK hP 0 rfl rfl 0 kc_l_0_2 (hts (.fieldLink RX8 9 "NotEnded$Tape" "signs" "[C") (List.mem_cons_of_mem _ (List.mem_append_left _ (List.mem_of_getElem? (i := 1) rfl)))) (fun _ h9 => h9) rfl dX8_append_24 ?_
          refine va_alen hx hb hK hP 1 0 rfl rfl (v := 120) rfl dX8_append_27 ?_
          have hy_158_c : kC1 p0 0 = 1 := by simp [kC1, hy_158, c_159]
          refine lv_icmp_ge (tgt := 52) hx hb dX8_append_28 kc_t_28_24 (fun c_161 => absurd c_161 (nI_ge (a := kt + 1 + 1 + 1) (b := 120) (by omega) (by decide))) (fun c_161 => ?_)
          refine lv_aload_n hx hb dX8_append_31 rfl (lv_at hl 2 rfl) ?_
          refine va_get (D := (dC, dI)) (ci := 8) (v := .ref t0) (C := RX8) (T := TX8) (N := 2) hx hb hts (fun _ h => List.mem_cons_of_mem _ (List.mem_append_right _ h)) hown hK hP 0 rfl rfl 0 kc_l_0_2 (hts (.fieldLink RX8 9 "NotEnded$Tape" "signs" "[C") (List.mem_cons_of_mem _ (List.mem_append_left _ (List.mem_of_getElem? (i := 1) rfl)))) (fun _ h9 => h9) rfl dX8_append_32 ?_
          refine lv_aload_n hx hb dX8_append_35 rfl (lv_at hl 2 rfl) ?_
          refine va_get (D := (dC, dI)) (ci := 8) (v := .int (nI (kt + 1 + 1 + 1))) (C := RX8) (T := TX8) (N := 2) hx hb hts (fun _ h => List.mem_cons_of_mem _ (List.mem_append_right _ h)) hown hK hP 0 rfl rfl 1 kc_l_1_2 (hts (.fieldLink RX8 15 "NotEnded$Tape" "length" "I") (List.mem_cons_of_mem _ (List.mem_append_left _ (List.mem_of_getElem? (i := 0) rfl)))) (fun _ h9 => h9) rfl dX8_append_36 ?_
          refine lv_iload_n hx hb dX8_append_39 rfl (lv_at hl 0 rfl) ?_
          obtain ⟨x_162, ex_162⟩ : ∃ z : Int32, z = (Int32.toUInt32 x_157 % 65536).toInt32 := ⟨_, rfl⟩
          refine lv_i2c (v := x_162) hx hb dX8_append_40 ex_162.symm ?_
          have bd_164 : kt + 1 + 1 + 1 < 120 := by omega
          refine va_cast hx hb hK hP hD hS 1 0 rfl rfl (vp_in_nI (n := kt + 1 + 1 + 1) (N := 120) bd_164 kc_31_120) dX8_append_41 (fun H locs hP hD hS => ?_)
          obtain ⟨f_163, ef_163⟩ : ∃ gg9 : Nat → Int32, gg9 = upd f_152 (Int32.toNatClampNeg (nI (kt + 1 + 1 + 1))) (vp_nar .char x_162) := ⟨_, rfl⟩
          have hPD : kPD dC dI A [(jT, .inr (8, [.ref t0, .int (nI (kt + 1 + 1 + 1))])), (t0, .inl (cC, 120, .inl f_163))] H := by rw [ef_163]; exact ⟨hP, hD⟩
          have hP := hPD.1
          have hD := hPD.2
          refine lv_aload_n hx hb dX8_append_42 rfl (lv_at hl 2 rfl) ?_
          refine lv_dup hx hb dX8_append_43 rfl ?_
          refine va_get (D := (dC, dI)) (ci := 8) (v := .int (nI (kt + 1 + 1 + 1))) (C := RX8) (T := TX8) (N := 2) hx hb hts (fun _ h => List.mem_cons_of_mem _ (List.mem_append_right _ h)) hown hK hP 0 rfl rfl 1 kc_l_1_2 (hts (.fieldLink RX8 15 "NotEnded$Tape" "length" "I") (List.mem_cons_of_mem _ (List.mem_append_left _ (List.mem_of_getElem? (i := 0) rfl)))) (fun _ h9 => h9) rfl dX8_append_44 ?_
          refine lv_iconst (v := 1) hx hb dX8_append_47 kc_i_1 ?_
          refine lv_iadd hx hb dX8_append_48 ?_
          refine lv_topi (fun y_165 ey_165 => ?_)
          obtain rfl : y_165 = nI (kt + 1 + 1 + 1 + 1) := ey_165.trans (nI_add (kt + 1 + 1 + 1) (1))
          refine va_put (D := (dC, dI)) (ci := 8) (v := .int (nI (kt + 1 + 1 + 1 + 1))) (ty := tyX8 1) (C := RX8) (T := TX8) (N := 2) hx hb hts (fun _ h => List.mem_cons_of_mem _ (List.mem_append_right _ h)) tyX8 tyX8_ok nmX8 hown hK hP hD hS 0 rfl rfl 1 kc_l_1_2 (hts (.fieldLink RX8 15 "NotEnded$Tape" "length" "I") (List.mem_cons_of_mem _ (List.mem_append_left _ (List.mem_of_getElem? (i := 0) rfl)))) (fun _ h9 => h9) rfl (tyX8_ok 1 kc_l_1_2) rfl rfl (Nat.le_of_ble_eq_true rfl) dX8_append_49 (fun H locs hP hD hS => ?_)
          have hPD : kPD dC dI A [(jT, .inr (8, [.ref t0, .int (nI (kt + 1 + 1 + 1 + 1))])), (t0, .inl (cC, 120, .inl f_163))] H := ⟨hP, hD⟩
          have hP := hPD.1
          have hD := hPD.2
          refine lv_iinc (v := (-8)) hx hb dX8_append_52 hl (k := 1) rfl (by decide) kc_l_2_4 (kTo [(2, .int (-8)), (3, .int x_157), (0, .ref jT), (1, .int p0)]) (fun ls hl => ?_)
          refine lv_goto (tgt := 3) hx hb dX8_append_55 kc_t_55_m52 ?_
          refine lv_iload_n hx hb dX8_append_3 rfl (lv_at hl 0 rfl) ?_
          refine lv_if_lt (tgt := 58) hx hb dX8_append_4 kc_t_4_54 (fun c_166 => ?_) (fun c_166 => absurd (by decide) c_166)
          have hk8 : kCnt p0 = 4 := by simp [kCnt, kC1, hy_4, hy_92, hy_136, hy_158, c_5, c_93, c_137, c_159]
          have hP9 := hP
          have hD9 := hD
          have hK9 := hK
          rw [hQ]
          exact W.vret hx hb hr (fun t ht hW => ⟨⟨(f_163, (kt + 1 + 1 + 1 + 1), (kUpN (kUpN (kUpN (kUpN bt kt (kSn p0 24)) (kt + 1) (kSn p0 16)) (kt + 1 + 1) (kSn p0 8)) (kt + 1 + 1 + 1) (kSn p0 0))), rfl, ⟨by unfold kPut; rw [kP1_n (k := 24) (fun z => c_5 (hy_4.symm.trans z)), kP1_n (k := 16) (fun z => c_93 (hy_92.symm.trans z)), kP1_n (k := 8) (fun z => c_137 (hy_136.symm.trans z)), kP1_n (k := 0) (fun z => c_159 (hy_158.symm.trans z))], (kUpB (by omega) ef_163 ex_162 hy_158 (kUpB (by omega) ef_152 ex_151 hy_136 (kUpB (by omega) ef_130 ex_129 hy_92 (kUpB (by omega) ef_86 ex_85 hy_4 hbt)))), (kUp8 (kUp8 (kUp8 (kUp8 hb8)))), by omega⟩,  by rw [ht]; exact hP9, va_K.moved hW.alike hK9, hD9⟩, hS.F ht⟩) hS.2.2 dX8_append_58
