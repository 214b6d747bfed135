def w_s_bytes8x : List Cond := .code yX8_bytesIn cX8_bytesIn 3 (some .int) :: ([])
theorem gw_s_bytes8x : (w_s_bytes8x).all goodWord = true := kGc rfl kGn
set_option maxHeartbeats 4000000 in
set_option maxRecDepth 100000 in
theorem s_bytes8x (l : Launch) (dC : Nat → ClassId) (dI : Nat → Nat → Nat) (p0 : Int32) : Met l yX8_bytesIn w_s_bytes8x ({ frames := 1, cells := 0, slots := 0, locals := 60 }) (kR dC dI [.int p0] [] [] kT) (vp_Si (fun r : Int32 => r = nI (kCnt p0))) 0 0 (fun _ => False) := by
  refine Met.ofW (cc := cX8_bytesIn) (maxL := 3) (ret := (some .int)) (by decide) rfl ?_
  intro p e s m args below meth c s₁ B hml hv
  obtain ⟨rfl, hP, hK, hX⟩ := hv
  have hx := B.exec
  have hb := B.bytes
  have hr := B.returns
  have hts := atoms_spec (ws := w_s_bytes8x) B.pre
  have hown : s.vm.findClass RX8 = some m.cls := findClass_of_methodNamed B.named
  have hlocks := B.notSynchronized
  have hP : va_P (dC, dI) vwCl [] s.heap := hP
  have hl := lv_entry ([.int p0]) (n := 3) (Nat.le_of_ble_eq_true rfl)
  rw [lg_entry_eq]
  generalize (lg_sl ([.int p0]) ++ List.replicate (3 - (lg_sl ([.int p0])).length) Slot.unset).toArray = ls at hl ⊢
  have hl : lv_has ls 3 [(0, .int p0)] := hl
  refine kQ (fun Q hQ => ?_)
  refine lv_iconst (v := 0) hx hb dX8_bytesIn_0 (by decide) ?_
  refine lv_istore_n hx hb dX8_bytesIn_1 rfl hl (by decide) (kTo [(1, .int 0), (0, .int p0)]) (fun ls hl => ?_)
  refine lv_bipush (v := 24) hx hb dX8_bytesIn_2 (by decide) ?_
  refine lv_istore_n hx hb dX8_bytesIn_4 rfl hl (by decide) (kTo [(2, .int 24), (1, .int 0), (0, .int p0)]) (fun ls hl => ?_)
  refine lv_iload_n hx hb dX8_bytesIn_5 rfl (lv_at hl 0 rfl) ?_
  refine lv_if_lt (tgt := 28) hx hb dX8_bytesIn_6 (by decide) (fun c_1 => absurd c_1 (by decide)) (fun c_1 => ?_)
  refine lv_iload_n hx hb dX8_bytesIn_9 rfl (lv_at hl 2 rfl) ?_
  refine lv_iload_n hx hb dX8_bytesIn_10 rfl (lv_at hl 0 rfl) ?_
  obtain ⟨x_2, ex_2⟩ : ∃ z : Int32, z = (Int32.toUInt32 p0 >>> (Int32.toUInt32 24 &&& Int32.toUInt32 31)).toInt32 := ⟨_, rfl⟩
  refine lv_iushr (v := x_2) hx hb dX8_bytesIn_11 ex_2.symm ?_
  refine lv_sipush (v := 255) hx hb dX8_bytesIn_12 (by decide) ?_
  refine lv_iand hx hb dX8_bytesIn_15 ?_
  refine lv_topi (fun x_3 ex_3 => ?_)
  have hy_4 : kS p0 24 = x_3 := by rw [ex_3, ex_2]; exact (kSu24 p0).symm
  refine lv_if_eq (tgt := 22) hx hb dX8_bytesIn_16 (by decide) (fun c_5 => ?_) (fun c_5 => ?_)
  · refine lv_iinc (v := 16) hx hb dX8_bytesIn_22 hl (k := 0) rfl (by decide) (by decide) (kTo [(2, .int 16), (1, .int 0), (0, .int p0)]) (fun ls hl => ?_)
    refine lv_goto (tgt := 5) hx hb dX8_bytesIn_25 (by decide) ?_
    refine lv_iload_n hx hb dX8_bytesIn_5 rfl (lv_at hl 0 rfl) ?_
    refine lv_if_lt (tgt := 28) hx hb dX8_bytesIn_6 (by decide) (fun c_6 => absurd c_6 (by decide)) (fun c_6 => ?_)
    refine lv_iload_n hx hb dX8_bytesIn_9 rfl (lv_at hl 2 rfl) ?_
    refine lv_iload_n hx hb dX8_bytesIn_10 rfl (lv_at hl 0 rfl) ?_
    obtain ⟨x_7, ex_7⟩ : ∃ z : Int32, z = (Int32.toUInt32 p0 >>> (Int32.toUInt32 16 &&& Int32.toUInt32 31)).toInt32 := ⟨_, rfl⟩
    refine lv_iushr (v := x_7) hx hb dX8_bytesIn_11 ex_7.symm ?_
    refine lv_sipush (v := 255) hx hb dX8_bytesIn_12 (by decide) ?_
    refine lv_iand hx hb dX8_bytesIn_15 ?_
    refine lv_topi (fun x_8 ex_8 => ?_)
    have hy_9 : kS p0 16 = x_8 := by rw [ex_8, ex_7]; exact (kSu16 p0).symm
    refine lv_if_eq (tgt := 22) hx hb dX8_bytesIn_16 (by decide) (fun c_10 => ?_) (fun c_10 => ?_)
    · refine lv_iinc (v := 8) hx hb dX8_bytesIn_22 hl (k := 0) rfl (by decide) (by decide) (kTo [(2, .int 8), (1, .int 0), (0, .int p0)]) (fun ls hl => ?_)
      refine lv_goto (tgt := 5) hx hb dX8_bytesIn_25 (by decide) ?_
      refine lv_iload_n hx hb dX8_bytesIn_5 rfl (lv_at hl 0 rfl) ?_
      refine lv_if_lt (tgt := 28) hx hb dX8_bytesIn_6 (by decide) (fun c_11 => absurd c_11 (by decide)) (fun c_11 => ?_)
      refine lv_iload_n hx hb dX8_bytesIn_9 rfl (lv_at hl 2 rfl) ?_
      refine lv_iload_n hx hb dX8_bytesIn_10 rfl (lv_at hl 0 rfl) ?_
      obtain ⟨x_12, ex_12⟩ : ∃ z : Int32, z = (Int32.toUInt32 p0 >>> (Int32.toUInt32 8 &&& Int32.toUInt32 31)).toInt32 := ⟨_, rfl⟩
      refine lv_iushr (v := x_12) hx hb dX8_bytesIn_11 ex_12.symm ?_
      refine lv_sipush (v := 255) hx hb dX8_bytesIn_12 (by decide) ?_
      refine lv_iand hx hb dX8_bytesIn_15 ?_
      refine lv_topi (fun x_13 ex_13 => ?_)
      have hy_14 : kS p0 8 = x_13 := by rw [ex_13, ex_12]; exact (kSu8 p0).symm
      refine lv_if_eq (tgt := 22) hx hb dX8_bytesIn_16 (by decide) (fun c_15 => ?_) (fun c_15 => ?_)
      · refine lv_iinc (v := 0) hx hb dX8_bytesIn_22 hl (k := 0) rfl (by decide) (by decide) (kTo [(2, .int 0), (1, .int 0), (0, .int p0)]) (fun ls hl => ?_)
        refine lv_goto (tgt := 5) hx hb dX8_bytesIn_25 (by decide) ?_
        refine lv_iload_n hx hb dX8_bytesIn_5 rfl (lv_at hl 0 rfl) ?_
        refine lv_if_lt (tgt := 28) hx hb dX8_bytesIn_6 (by decide) (fun c_16 => absurd c_16 (by decide)) (fun c_16 => ?_)
        refine lv_iload_n hx hb dX8_bytesIn_9 rfl (lv_at hl 2 rfl) ?_
        refine lv_iload_n hx hb dX8_bytesIn_10 rfl (lv_at hl 0 rfl) ?_
        obtain ⟨x_17, ex_17⟩ : ∃ z : Int32, z = (Int32.toUInt32 p0 >>> (Int32.toUInt32 0 &&& Int32.toUInt32 31)).toInt32 := ⟨_, rfl⟩
        refine lv_iushr (v := x_17) hx hb dX8_bytesIn_11 ex_17.symm ?_
        refine lv_sipush (v := 255) hx hb dX8_bytesIn_12 (by decide) ?_
        refine lv_iand hx hb dX8_bytesIn_15 ?_
        refine lv_topi (fun x_18 ex_18 => ?_)
        have hy_19 : kS p0 0 = x_18 := by rw [ex_18, ex_17]; exact (kSu0 p0).symm
        refine lv_if_eq (tgt := 22) hx hb dX8_bytesIn_16 (by decide) (fun c_20 => ?_) (fun c_20 => ?_)
        · refine lv_iinc (v := (-8)) hx hb dX8_bytesIn_22 hl (k := 0) rfl (by decide) (by decide) (kTo [(2, .int (-8)), (1, .int 0), (0, .int p0)]) (fun ls hl => ?_)
          refine lv_goto (tgt := 5) hx hb dX8_bytesIn_25 (by decide) ?_
          refine lv_iload_n hx hb dX8_bytesIn_5 rfl (lv_at hl 0 rfl) ?_
          refine lv_if_lt (tgt := 28) hx hb dX8_bytesIn_6 (by decide) (fun c_21 => ?_) (fun c_21 => absurd (by decide) c_21)
          refine lv_iload_n hx hb dX8_bytesIn_28 rfl (lv_at hl 1 rfl) ?_
          have hk : kCnt p0 = 0 := by simp [kCnt, kC1, hy_4, hy_9, hy_14, hy_19, c_5, c_10, c_15, c_20]
          rw [hQ]
          exact W.iret (v := 0) hx hb hr (fun t ht hW => ⟨0, rfl, (by rw [hk]; rfl), ht⟩) (fun _ h => nomatch h) dX8_bytesIn_29
        · refine lv_iinc (v := 1) hx hb dX8_bytesIn_19 hl (k := 1) rfl (by decide) (by decide) (kTo [(1, .int 1), (2, .int 0), (0, .int p0)]) (fun ls hl => ?_)
          refine lv_iinc (v := (-8)) hx hb dX8_bytesIn_22 hl (k := 1) rfl (by decide) (by decide) (kTo [(2, .int (-8)), (1, .int 1), (0, .int p0)]) (fun ls hl => ?_)
          refine lv_goto (tgt := 5) hx hb dX8_bytesIn_25 (by decide) ?_
          refine lv_iload_n hx hb dX8_bytesIn_5 rfl (lv_at hl 0 rfl) ?_
          refine lv_if_lt (tgt := 28) hx hb dX8_bytesIn_6 (by decide) (fun c_22 => ?_) (fun c_22 => absurd (by decide) c_22)
          refine lv_iload_n hx hb dX8_bytesIn_28 rfl (lv_at hl 1 rfl) ?_
          have hk : kCnt p0 = 1 := by simp [kCnt, kC1, hy_4, hy_9, hy_14, hy_19, c_5, c_10, c_15, c_20]
          rw [hQ]
          exact W.iret (v := 1) hx hb hr (fun t ht hW => ⟨1, rfl, (by rw [hk]; rfl), ht⟩) (fun _ h => nomatch h) dX8_bytesIn_29
      · refine lv_iinc (v := 1) hx hb dX8_bytesIn_19 hl (k := 1) rfl (by decide) (by decide) (kTo [(1, .int 1), (2, .int 8), (0, .int p0)]) (fun ls hl => ?_)
        refine lv_iinc (v := 0) hx hb dX8_bytesIn_22 hl (k := 1) rfl (by decide) (by decide) (kTo [(2, .int 0), (1, .int 1), (0, .int p0)]) (fun ls hl => ?_)
        refine lv_goto (tgt := 5) hx hb dX8_bytesIn_25 (by decide) ?_
        refine lv_iload_n hx hb dX8_bytesIn_5 rfl (lv_at hl 0 rfl) ?_
        refine lv_if_lt (tgt := 28) hx hb dX8_bytesIn_6 (by decide) (fun c_23 => absurd c_23 (by decide)) (fun c_23 => ?_)
        refine lv_iload_n hx hb dX8_bytesIn_9 rfl (lv_at hl 2 rfl) ?_
        refine lv_iload_n hx hb dX8_bytesIn_10 rfl (lv_at hl 0 rfl) ?_
        obtain ⟨x_24, ex_24⟩ : ∃ z : Int32, z = (Int32.toUInt32 p0 >>> (Int32.toUInt32 0 &&& Int32.toUInt32 31)).toInt32 := ⟨_, rfl⟩
        refine lv_iushr (v := x_24) hx hb dX8_bytesIn_11 ex_24.symm ?_
        refine lv_sipush (v := 255) hx hb dX8_bytesIn_12 (by decide) ?_
        refine lv_iand hx hb dX8_bytesIn_15 ?_
        refine lv_topi (fun x_25 ex_25 => ?_)
        have hy_26 : kS p0 0 = x_25 := by rw [ex_25, ex_24]; exact (kSu0 p0).symm
        refine lv_if_eq (tgt := 22) hx hb dX8_bytesIn_16 (by decide) (fun c_27 => ?_) (fun c_27 => ?_)
        · refine lv_iinc (v := (-8)) hx hb dX8_bytesIn_22 hl (k := 0) rfl (by decide) (by decide) (kTo [(2, .int (-8)), (1, .int 1), (0, .int p0)]) (fun ls hl => ?_)
          refine lv_goto (tgt := 5) hx hb dX8_bytesIn_25 (by decide) ?_
          refine lv_iload_n hx hb dX8_bytesIn_5 rfl (lv_at hl 0 rfl) ?_
          refine lv_if_lt (tgt := 28) hx hb dX8_bytesIn_6 (by decide) (fun c_28 => ?_) (fun c_28 => absurd (by decide) c_28)
          refine lv_iload_n hx hb dX8_bytesIn_28 rfl (lv_at hl 1 rfl) ?_
          have hk : kCnt p0 = 1 := by simp [kCnt, kC1, hy_4, hy_9, hy_14, hy_26, c_5, c_10, c_15, c_27]
          rw [hQ]
          exact W.iret (v := 1) hx hb hr (fun t ht hW => ⟨1, rfl, (by rw [hk]; rfl), ht⟩) (fun _ h => nomatch h) dX8_bytesIn_29
        · refine lv_iinc (v := 2) hx hb dX8_bytesIn_19 hl (k := 1) rfl (by decide) (by decide) (kTo [(1, .int 2), (2, .int 0), (0, .int p0)]) (fun ls hl => ?_)
          refine lv_iinc (v := (-8)) hx hb dX8_bytesIn_22 hl (k := 1) rfl (by decide) (by decide) (kTo [(2, .int (-8)), (1, .int 2), (0, .int p0)]) (fun ls hl => ?_)
          refine lv_goto (tgt := 5) hx hb dX8_bytesIn_25 (by decide) ?_
          refine lv_iload_n hx hb dX8_bytesIn_5 rfl (lv_at hl 0 rfl) ?_
          refine lv_if_lt (tgt := 28) hx hb dX8_bytesIn_6 (by decide) (fun c_29 => ?_) (fun c_29 => absurd (by decide) c_29)
          refine lv_iload_n hx hb dX8_bytesIn_28 rfl (lv_at hl 1 rfl) ?_
          have hk : kCnt p0 = 2 := by simp [kCnt, kC1, hy_4, hy_9, hy_14, hy_26, c_5, c_10, c_15, c_27]
          rw [hQ]
          exact W.iret (v := 2) hx hb hr (fun t ht hW => ⟨2, rfl, (by rw [hk]; rfl), ht⟩) (fun _ h => nomatch h) dX8_bytesIn_29
    · refine lv_iinc (v := 1) hx hb dX8_bytesIn_19 hl (k := 1) rfl (by decide) (by decide) (kTo [(1, .int 1), (2, .int 16), (0, .int p0)]) (fun ls hl => ?_)
      refine lv_iinc (v := 8) hx hb dX8_bytesIn_22 hl (k := 1) rfl (by decide) (by decide) (kTo [(2, .int 8), (1, .int 1), (0, .int p0)]) (fun ls hl => ?_)
      refine lv_goto (tgt := 5) hx hb dX8_bytesIn_25 (by decide) ?_
      refine lv_iload_n hx hb dX8_bytesIn_5 rfl (lv_at hl 0 rfl) ?_
      refine lv_if_lt (tgt := 28) hx hb dX8_bytesIn_6 (by decide) (fun c_30 => absurd c_30 (by decide)) (fun c_30 => ?_)
      refine lv_iload_n hx hb dX8_bytesIn_9 rfl (lv_at hl 2 rfl) ?_
      refine lv_iload_n hx hb dX8_bytesIn_10 rfl (lv_at hl 0 rfl) ?_
      obtain ⟨x_31, ex_31⟩ : ∃ z : Int32, z = (Int32.toUInt32 p0 >>> (Int32.toUInt32 8 &&& Int32.toUInt32 31)).toInt32 := ⟨_, rfl⟩
      refine lv_iushr (v := x_31) hx hb dX8_bytesIn_11 ex_31.symm ?_
      refine lv_sipush (v := 255) hx hb dX8_bytesIn_12 (by decide) ?_
      refine lv_iand hx hb dX8_bytesIn_15 ?_
      refine lv_topi (fun x_32 ex_32 => ?_)
      have hy_33 : kS p0 8 = x_32 := by rw [ex_32, ex_31]; exact (kSu8 p0).symm
      refine lv_if_eq (tgt := 22) hx hb dX8_bytesIn_16 (by decide) (fun c_34 => ?_) (fun c_34 => ?_)
      · refine lv_iinc (v := 0) hx hb dX8_bytesIn_22 hl (k := 0) rfl (by decide) (by decide) (kTo [(2, .int 0), (1, .int 1), (0, .int p0)]) (fun ls hl => ?_)
        refine lv_goto (tgt := 5) hx hb dX8_bytesIn_25 (by decide) ?_
        refine lv_iload_n hx hb dX8_bytesIn_5 rfl (lv_at hl 0 rfl) ?_
        refine lv_if_lt (tgt := 28) hx hb dX8_bytesIn_6 (by decide) (fun c_35 => absurd c_35 (by decide)) (fun c_35 => ?_)
        refine lv_iload_n hx hb dX8_bytesIn_9 rfl (lv_at hl 2 rfl) ?_
        refine lv_iload_n hx hb dX8_bytesIn_10 rfl (lv_at hl 0 rfl) ?_
        obtain ⟨x_36, ex_36⟩ : ∃ z : Int32, z = (Int32.toUInt32 p0 >>> (Int32.toUInt32 0 &&& Int32.toUInt32 31)).toInt32 := ⟨_, rfl⟩
        refine lv_iushr (v := x_36) hx hb dX8_bytesIn_11 ex_36.symm ?_
        refine lv_sipush (v := 255) hx hb dX8_bytesIn_12 (by decide) ?_
        refine lv_iand hx hb dX8_bytesIn_15 ?_
        refine lv_topi (fun x_37 ex_37 => ?_)
        have hy_38 : kS p0 0 = x_37 := by rw [ex_37, ex_36]; exact (kSu0 p0).symm
        refine lv_if_eq (tgt := 22) hx hb dX8_bytesIn_16 (by decide) (fun c_39 => ?_) (fun c_39 => ?_)
        · refine lv_iinc (v := (-8)) hx hb dX8_bytesIn_22 hl (k := 0) rfl (by decide) (by decide) (kTo [(2, .int (-8)), (1, .int 1), (0, .int p0)]) (fun ls hl => ?_)
          refine lv_goto (tgt := 5) hx hb dX8_bytesIn_25 (by decide) ?_
          refine lv_iload_n hx hb dX8_bytesIn_5 rfl (lv_at hl 0 rfl) ?_
          refine lv_if_lt (tgt := 28) hx hb dX8_bytesIn_6 (by decide) (fun c_40 => ?_) (fun c_40 => absurd (by decide) c_40)
          refine lv_iload_n hx hb dX8_bytesIn_28 rfl (lv_at hl 1 rfl) ?_
          have hk : kCnt p0 = 1 := by simp [kCnt, kC1, hy_4, hy_9, hy_33, hy_38, c_5, c_10, c_34, c_39]
          rw [hQ]
          exact W.iret (v := 1) hx hb hr (fun t ht hW => ⟨1, rfl, (by rw [hk]; rfl), ht⟩) (fun _ h => nomatch h) dX8_bytesIn_29
        · refine lv_iinc (v := 2) hx hb dX8_bytesIn_19 hl (k := 1) rfl (by decide) (by decide) (kTo [(1, .int 2), (2, .int 0), (0, .int p0)]) (fun ls hl => ?_)
          refine lv_iinc (v := (-8)) hx hb dX8_bytesIn_22 hl (k := 1) rfl (by decide) (by decide) (kTo [(2, .int (-8)), (1, .int 2), (0, .int p0)]) (fun ls hl => ?_)
          refine lv_goto (tgt := 5) hx hb dX8_bytesIn_25 (by decide) ?_
          refine lv_iload_n hx hb dX8_bytesIn_5 rfl (lv_at hl 0 rfl) ?_
          refine lv_if_lt (tgt := 28) hx hb dX8_bytesIn_6 (by decide) (fun c_41 => ?_) (fun c_41 => absurd (by decide) c_41)
          refine lv_iload_n hx hb dX8_bytesIn_28 rfl (lv_at hl 1 rfl) ?_
          have hk : kCnt p0 = 2 := by simp [kCnt, kC1, hy_4, hy_9, hy_33, hy_38, c_5, c_10, c_34, c_39]
          rw [hQ]
          exact W.iret (v := 2) hx hb hr (fun t ht hW => ⟨2, rfl, (by rw [hk]; rfl), ht⟩) (fun _ h => nomatch h) dX8_bytesIn_29
      · refine lv_iinc (v := 2) hx hb dX8_bytesIn_19 hl (k := 1) rfl (by decide) (by decide) (kTo [(1, .int 2), (2, .int 8), (0, .int p0)]) (fun ls hl => ?_)
        refine lv_iinc (v := 0) hx hb dX8_bytesIn_22 hl (k := 1) rfl (by decide) (by decide) (kTo [(2, .int 0), (1, .int 2), (0, .int p0)]) (fun ls hl => ?_)
        refine lv_goto (tgt := 5) hx hb dX8_bytesIn_25 (by decide) ?_
        refine lv_iload_n hx hb dX8_bytesIn_5 rfl (lv_at hl 0 rfl) ?_
        refine lv_if_lt (tgt := 28) hx hb dX8_bytesIn_6 (by decide) (fun c_42 => absurd c_42 (by decide)) (fun c_42 => ?_)
        refine lv_iload_n hx hb dX8_bytesIn_9 rfl (lv_at hl 2 rfl) ?_
        refine lv_iload_n hx hb dX8_bytesIn_10 rfl (lv_at hl 0 rfl) ?_
        obtain ⟨x_43, ex_43⟩ : ∃ z : Int32, z = (Int32.toUInt32 p0 >>> (Int32.toUInt32 0 &&& Int32.toUInt32 31)).toInt32 := ⟨_, rfl⟩
        refine lv_iushr (v := x_43) hx hb dX8_bytesIn_11 ex_43.symm ?_
        refine lv_sipush (v := 255) hx hb dX8_bytesIn_12 (by decide) ?_
        refine lv_iand hx hb dX8_bytesIn_15 ?_
        refine lv_topi (fun x_44 ex_44 => ?_)
        have hy_45 : kS p0 0 = x_44 := by rw [ex_44, ex_43]; exact (kSu0 p0).symm
        refine lv_if_eq (tgt := 22) hx hb dX8_bytesIn_16 (by decide) (fun c_46 => ?_) (fun c_46 => ?_)
        · refine lv_iinc (v := (-8)) hx hb dX8_bytesIn_22 hl (k := 0) rfl (by decide) (by decide) (kTo [(2, .int (-8)), (1, .int 2), (0, .int p0)]) (fun ls hl => ?_)
          refine lv_goto (tgt := 5) hx hb dX8_bytesIn_25 (by decide) ?_
          refine lv_iload_n hx hb dX8_bytesIn_5 rfl (lv_at hl 0 rfl) ?_
          refine lv_if_lt (tgt := 28) hx hb dX8_bytesIn_6 (by decide) (fun c_47 => ?_) (fun c_47 => absurd (by decide) c_47)
          refine lv_iload_n hx hb dX8_bytesIn_28 rfl (lv_at hl 1 rfl) ?_
          have hk : kCnt p0 = 2 := by simp [kCnt, kC1, hy_4, hy_9, hy_33, hy_45, c_5, c_10, c_34, c_46]
          rw [hQ]
          exact W.iret (v := 2) hx hb hr (fun t ht hW => ⟨2, rfl, (by rw [hk]; rfl), ht⟩) (fun _ h => nomatch h) dX8_bytesIn_29
        · refine lv_iinc (v := 3) hx hb dX8_bytesIn_19 hl (k := 1) rfl (by decide) (by decide) (kTo [(1, .int 3), (2, .int 0), (0, .int p0)]) (fun ls hl => ?_)
          refine lv_iinc (v := (-8)) hx hb dX8_bytesIn_22 hl (k := 1) rfl (by decide) (by decide) (kTo [(2, .int (-8)), (1, .int 3), (0, .int p0)]) (fun ls hl => ?_)
          refine lv_goto (tgt := 5) hx hb dX8_bytesIn_25 (by decide) ?_
          refine lv_iload_n hx hb dX8_bytesIn_5 rfl (lv_at hl 0 rfl) ?_
          refine lv_if_lt (tgt := 28) hx hb dX8_bytesIn_6 (by decide) (fun c_48 => ?_) (fun c_48 => absurd (by decide) c_48)
          refine lv_iload_n hx hb dX8_bytesIn_28 rfl (lv_at hl 1 rfl) ?_
          have hk : kCnt p0 = 3 := by simp [kCnt, kC1, hy_4, hy_9, hy_33, hy_45, c_5, c_10, c_34, c_46]
          rw [hQ]
          exact W.iret (v := 3) hx hb hr (fun t ht hW => ⟨3, rfl, (by rw [hk]; rfl), ht⟩) (fun _ h => nomatch h) dX8_bytesIn_29
  · refine lv_iinc (v := 1) hx hb dX8_bytesIn_19 hl (k := 1) rfl (by decide) (by decide) (kTo [(1, .int 1), (2, .int 24), (0, .int p0)]) (fun ls hl => ?_)
    refine lv_iinc (v := 16) hx hb dX8_bytesIn_22 hl (k := 1) rfl (by decide) (by decide) (kTo [(2, .int 16), (1, .int 1), (0, .int p0)]) (fun ls hl => ?_)
    refine lv_goto (tgt := 5) hx hb dX8_bytesIn_25 (by decide) ?_
    refine lv_iload_n hx hb dX8_bytesIn_5 rfl (lv_at hl 0 rfl) ?_
    refine lv_if_lt (tgt := 28) hx hb dX8_bytesIn_6 (by decide) (fun c_49 => absurd c_49 (by decide)) (fun c_49 => ?_)
    refine lv_iload_n hx hb dX8_bytesIn_9 rfl (lv_at hl 2 rfl) ?_
    refine lv_iload_n hx hb dX8_bytesIn_10 rfl (lv_at hl 0 rfl) ?_
    obtain ⟨x_50, ex_50⟩ : ∃ z : Int32, z = (Int32.toUInt32 p0 >>> (Int32.toUInt32 16 &&& Int32.toUInt32 31)).toInt32 := ⟨_, rfl⟩
    refine lv_iushr (v := x_50) hx hb dX8_bytesIn_11 ex_50.symm ?_
    refine lv_sipush (v := 255) hx hb dX8_bytesIn_12 (by decide) ?_
    refine lv_iand hx hb dX8_bytesIn_15 ?_
    refine lv_topi (fun x_51 ex_51 => ?_)
    have hy_52 : kS p0 16 = x_51 := by rw [ex_51, ex_50]; exact (kSu16 p0).symm
    refine lv_if_eq (tgt := 22) hx hb dX8_bytesIn_16 (by decide) (fun c_53 => ?_) (fun c_53 => ?_)
    · refine lv_iinc (v := 8) hx hb dX8_bytesIn_22 hl (k := 0) rfl (by decide) (by decide) (kTo [(2, .int 8), (1, .int 1), (0, .int p0)]) (fun ls hl => ?_)
      refine lv_goto (tgt := 5) hx hb dX8_bytesIn_25 (by decide) ?_
      refine lv_iload_n hx hb dX8_bytesIn_5 rfl (lv_at hl 0 rfl) ?_
      refine lv_if_lt (tgt := 28) hx hb dX8_bytesIn_6 (by decide) (fun c_54 => absurd c_54 (by decide)) (fun c_54 => ?_)
      refine lv_iload_n hx hb dX8_bytesIn_9 rfl (lv_at hl 2 rfl) ?_
      refine lv_iload_n hx hb dX8_bytesIn_10 rfl (lv_at hl 0 rfl) ?_
      obtain ⟨x_55, ex_55⟩ : ∃ z : Int32, z = (Int32.toUInt32 p0 >>> (Int32.toUInt32 8 &&& Int32.toUInt32 31)).toInt32 := ⟨_, rfl⟩
      refine lv_iushr (v := x_55) hx hb dX8_bytesIn_11 ex_55.symm ?_
      refine lv_sipush (v := 255) hx hb dX8_bytesIn_12 (by decide) ?_
      refine lv_iand hx hb dX8_bytesIn_15 ?_
      refine lv_topi (fun x_56 ex_56 => ?_)
      have hy_57 : kS p0 8 = x_56 := by rw [ex_56, ex_55]; exact (kSu8 p0).symm
      refine lv_if_eq (tgt := 22) hx hb dX8_bytesIn_16 (by decide) (fun c_58 => ?_) (fun c_58 => ?_)
      · refine lv_iinc (v := 0) hx hb dX8_bytesIn_22 hl (k := 0) rfl (by decide) (by decide) (kTo [(2, .int 0), (1, .int 1), (0, .int p0)]) (fun ls hl => ?_)
        refine lv_goto (tgt := 5) hx hb dX8_bytesIn_25 (by decide) ?_
        refine lv_iload_n hx hb dX8_bytesIn_5 rfl (lv_at hl 0 rfl) ?_
        refine lv_if_lt (tgt := 28) hx hb dX8_bytesIn_6 (by decide) (fun c_59 => absurd c_59 (by decide)) (fun c_59 => ?_)
        refine lv_iload_n hx hb dX8_bytesIn_9 rfl (lv_at hl 2 rfl) ?_
        refine lv_iload_n hx hb dX8_bytesIn_10 rfl (lv_at hl 0 rfl) ?_
        obtain ⟨x_60, ex_60⟩ : ∃ z : Int32, z = (Int32.toUInt32 p0 >>> (Int32.toUInt32 0 &&& Int32.toUInt32 31)).toInt32 := ⟨_, rfl⟩
        refine lv_iushr (v := x_60) hx hb dX8_bytesIn_11 ex_60.symm ?_
        refine lv_sipush (v := 255) hx hb dX8_bytesIn_12 (by decide) ?_
        refine lv_iand hx hb dX8_bytesIn_15 ?_
        refine lv_topi (fun x_61 ex_61 => ?_)
        have hy_62 : kS p0 0 = x_61 := by rw [ex_61, ex_60]; exact (kSu0 p0).symm
        refine lv_if_eq (tgt := 22) hx hb dX8_bytesIn_16 (by decide) (fun c_63 => ?_) (fun c_63 => ?_)
        · refine lv_iinc (v := (-8)) hx hb dX8_bytesIn_22 hl (k := 0) rfl (by decide) (by decide) (kTo [(2, .int (-8)), (1, .int 1), (0, .int p0)]) (fun ls hl => ?_)
          refine lv_goto (tgt := 5) hx hb dX8_bytesIn_25 (by decide) ?_
          refine lv_iload_n hx hb dX8_bytesIn_5 rfl (lv_at hl 0 rfl) ?_
          refine lv_if_lt (tgt := 28) hx hb dX8_bytesIn_6 (by decide) (fun c_64 => ?_) (fun c_64 => absurd (by decide) c_64)
          refine lv_iload_n hx hb dX8_bytesIn_28 rfl (lv_at hl 1 rfl) ?_
          have hk : kCnt p0 = 1 := by simp [kCnt, kC1, hy_4, hy_52, hy_57, hy_62, c_5, c_53, c_58, c_63]
          rw [hQ]
          exact W.iret (v := 1) hx hb hr (fun t ht hW => ⟨1, rfl, (by rw [hk]; rfl), ht⟩) (fun _ h => nomatch h) dX8_bytesIn_29
        · refine lv_iinc (v := 2) hx hb dX8_bytesIn_19 hl (k := 1) rfl (by decide) (by decide) (kTo [(1, .int 2), (2, .int 0), (0, .int p0)]) (fun ls hl => ?_)
          refine lv_iinc (v := (-8)) hx hb dX8_bytesIn_22 hl (k := 1) rfl (by decide) (by decide) (kTo [(2, .int (-8)), (1, .int 2), (0, .int p0)]) (fun ls hl => ?_)
          refine lv_goto (tgt := 5) hx hb dX8_bytesIn_25 (by decide) ?_
          refine lv_iload_n hx hb dX8_bytesIn_5 rfl (lv_at hl 0 rfl) ?_
          refine lv_if_lt (tgt := 28) hx hb dX8_bytesIn_6 (by decide) (fun c_65 => ?_) (fun c_65 => absurd (by decide) c_65)
          refine lv_iload_n hx hb dX8_bytesIn_28 rfl (lv_at hl 1 rfl) ?_
          have hk : kCnt p0 = 2 := by simp [kCnt, kC1, hy_4, hy_52, hy_57, hy_62, c_5, c_53, c_58, c_63]
          rw [hQ]
          exact W.iret (v := 2) hx hb hr (fun t ht hW => ⟨2, rfl, (by rw [hk]; rfl), ht⟩) (fun _ h => nomatch h) dX8_bytesIn_29
      · refine lv_iinc (v := 2) hx hb dX8_bytesIn_19 hl (k := 1) rfl (by decide) (by decide) (kTo [(1, .int 2), (2, .int 8), (0, .int p0)]) (fun ls hl => ?_)
        refine lv_iinc (v := 0) hx hb dX8_bytesIn_22 hl (k := 1) rfl (by decide) (by decide) (kTo [(2, .int 0), (1, .int 2), (0, .int p0)]) (fun ls hl => ?_)
        refine lv_goto (tgt := 5) hx hb dX8_bytesIn_25 (by decide) ?_
        refine lv_iload_n hx hb dX8_bytesIn_5 rfl (lv_at hl 0 rfl) ?_
        refine lv_if_lt (tgt := 28) hx hb dX8_bytesIn_6 (by decide) (fun c_66 => absurd c_66 (by decide)) (fun c_66 => ?_)
        refine lv_iload_n hx hb dX8_bytesIn_9 rfl (lv_at hl 2 rfl) ?_
        refine lv_iload_n hx hb dX8_bytesIn_10 rfl (lv_at hl 0 rfl) ?_
        obtain ⟨x_67, ex_67⟩ : ∃ z : Int32, z = (Int32.toUInt32 p0 >>> (Int32.toUInt32 0 &&& Int32.toUInt32 31)).toInt32 := ⟨_, rfl⟩
        refine lv_iushr (v := x_67) hx hb dX8_bytesIn_11 ex_67.symm ?_
        refine lv_sipush (v := 255) hx hb dX8_bytesIn_12 (by decide) ?_
        refine lv_iand hx hb dX8_bytesIn_15 ?_
        refine lv_topi (fun x_68 ex_68 => ?_)
        have hy_69 : kS p0 0 = x_68 := by rw [ex_68, ex_67]; exact (kSu0 p0).symm
        refine lv_if_eq (tgt := 22) hx hb dX8_bytesIn_16 (by decide) (fun c_70 => ?_) (fun c_70 => ?_)
        · refine lv_iinc (v := (-8)) hx hb dX8_bytesIn_22 hl (k := 0) rfl (by decide) (by decide) (kTo [(2, .int (-8)), (1, .int 2), (0, .int p0)]) (fun ls hl => ?_)
          refine lv_goto (tgt := 5) hx hb dX8_bytesIn_25 (by decide) ?_
          refine lv_iload_n hx hb dX8_bytesIn_5 rfl (lv_at hl 0 rfl) ?_
          refine lv_if_lt (tgt := 28) hx hb dX8_bytesIn_6 (by decide) (fun c_71 => ?_) (fun c_71 => absurd (by decide) c_71)
          refine lv_iload_n hx hb dX8_bytesIn_28 rfl (lv_at hl 1 rfl) ?_
          have hk : kCnt p0 = 2 := by simp [kCnt, kC1, hy_4, hy_52, hy_57, hy_69, c_5, c_53, c_58, c_70]
          rw [hQ]
          exact W.iret (v := 2) hx hb hr (fun t ht hW => ⟨2, rfl, (by rw [hk]; rfl), ht⟩) (fun _ h => nomatch h) dX8_bytesIn_29
        · refine lv_iinc (v := 3) hx hb dX8_bytesIn_19 hl (k := 1) rfl (by decide) (by decide) (kTo [(1, .int 3), (2, .int 0), (0, .int p0)]) (fun ls hl => ?_)
          refine lv_iinc (v := (-8)) hx hb dX8_bytesIn_22 hl (k := 1) rfl (by decide) (by decide) (kTo [(2, .int (-8)), (1, .int 3), (0, .int p0)]) (fun ls hl => ?_)
          refine lv_goto (tgt := 5) hx hb dX8_bytesIn_25 (by decide) ?_
          refine lv_iload_n hx hb dX8_bytesIn_5 rfl (lv_at hl 0 rfl) ?_
          refine lv_if_lt (tgt := 28) hx hb dX8_bytesIn_6 (by decide) (fun c_72 => ?_) (fun c_72 => absurd (by decide) c_72)
          refine lv_iload_n hx hb dX8_bytesIn_28 rfl (lv_at hl 1 rfl) ?_
          have hk : kCnt p0 = 3 := by simp [kCnt, kC1, hy_4, hy_52, hy_57, hy_69, c_5, c_53, c_58, c_70]
          rw [hQ]
          exact W.iret (v := 3) hx hb hr (fun t ht hW => ⟨3, rfl, (by rw [hk]; rfl), ht⟩) (fun _ h => nomatch h) dX8_bytesIn_29
    · refine lv_iinc (v := 2) hx hb dX8_bytesIn_19 hl (k := 1) rfl (by decide) (by decide) (kTo [(1, .int 2), (2, .int 16), (0, .int p0)]) (fun ls hl => ?_)
      refine lv_iinc (v := 8) hx hb dX8_bytesIn_22 hl (k := 1) rfl (by decide) (by decide) (kTo [(2, .int 8), (1, .int 2), (0, .int p0)]) (fun ls hl => ?_)
      refine lv_goto (tgt := 5) hx hb dX8_bytesIn_25 (by decide) ?_
      refine lv_iload_n hx hb dX8_bytesIn_5 rfl (lv_at hl 0 rfl) ?_
      refine lv_if_lt (tgt := 28) hx hb dX8_bytesIn_6 (by decide) (fun c_73 => absurd c_73 (by decide)) (fun c_73 => ?_)
      refine lv_iload_n hx hb dX8_bytesIn_9 rfl (lv_at hl 2 rfl) ?_
      refine lv_iload_n hx hb dX8_bytesIn_10 rfl (lv_at hl 0 rfl) ?_
      obtain ⟨x_74, ex_74⟩ : ∃ z : Int32, z = (Int32.toUInt32 p0 >>> (Int32.toUInt32 8 &&& Int32.toUInt32 31)).toInt32 := ⟨_, rfl⟩
      refine lv_iushr (v := x_74) hx hb dX8_bytesIn_11 ex_74.symm ?_
      refine lv_sipush (v := 255) hx hb dX8_bytesIn_12 (by decide) ?_
      refine lv_iand hx hb dX8_bytesIn_15 ?_
      refine lv_topi (fun x_75 ex_75 => ?_)
      have hy_76 : kS p0 8 = x_75 := by rw [ex_75, ex_74]; exact (kSu8 p0).symm
      refine lv_if_eq (tgt := 22) hx hb dX8_bytesIn_16 (by decide) (fun c_77 => ?_) (fun c_77 => ?_)
      · refine lv_iinc (v := 0) hx hb dX8_bytesIn_22 hl (k := 0) rfl (by decide) (by decide) (kTo [(2, .int 0), (1, .int 2), (0, .int p0)]) (fun ls hl => ?_)
        refine lv_goto (tgt := 5) hx hb dX8_bytesIn_25 (by decide) ?_
        refine lv_iload_n hx hb dX8_bytesIn_5 rfl (lv_at hl 0 rfl) ?_
        refine lv_if_lt (tgt := 28) hx hb dX8_bytesIn_6 (by decide) (fun c_78 => absurd c_78 (by decide)) (fun c_78 => ?_)
        refine lv_iload_n hx hb dX8_bytesIn_9 rfl (lv_at hl 2 rfl) ?_
        refine lv_iload_n hx hb dX8_bytesIn_10 rfl (lv_at hl 0 rfl) ?_
        obtain ⟨x_79, ex_79⟩ : ∃ z : Int32, z = (Int32.toUInt32 p0 >>> (Int32.toUInt32 0 &&& Int32.toUInt32 31)).toInt32 := ⟨_, rfl⟩
        refine lv_iushr (v := x_79) hx hb dX8_bytesIn_11 ex_79.symm ?_
        refine lv_sipush (v := 255) hx hb dX8_bytesIn_12 (by decide) ?_
        refine lv_iand hx hb dX8_bytesIn_15 ?_
        refine lv_topi (fun x_80 ex_80 => ?_)
        have hy_81 : kS p0 0 = x_80 := by rw [ex_80, ex_79]; exact (kSu0 p0).symm
        refine lv_if_eq (tgt := 22) hx hb dX8_bytesIn_16 (by decide) (fun c_82 => ?_) (fun c_82 => ?_)
        · refine lv_iinc (v := (-8)) hx hb dX8_bytesIn_22 hl (k := 0) rfl (by decide) (by decide) (kTo [(2, .int (-8)), (1, .int 2), (0, .int p0)]) (fun ls hl => ?_)
          refine lv_goto (tgt := 5) hx hb dX8_bytesIn_25 (by decide) ?_
          refine lv_iload_n hx hb dX8_bytesIn_5 rfl (lv_at hl 0 rfl) ?_
          refine lv_if_lt (tgt := 28) hx hb dX8_bytesIn_6 (by decide) (fun c_83 => ?_) (fun c_83 => absurd (by decide) c_83)
          refine lv_iload_n hx hb dX8_bytesIn_28 rfl (lv_at hl 1 rfl) ?_
          have hk : kCnt p0 = 2 := by simp [kCnt, kC1, hy_4, hy_52, hy_76, hy_81, c_5, c_53, c_77, c_82]
          rw [hQ]
          exact W.iret (v := 2) hx hb hr (fun t ht hW => ⟨2, rfl, (by rw [hk]; rfl), ht⟩) (fun _ h => nomatch h) dX8_bytesIn_29
        · refine lv_iinc (v := 3) hx hb dX8_bytesIn_19 hl (k := 1) rfl (by decide) (by decide) (kTo [(1, .int 3), (2, .int 0), (0, .int p0)]) (fun ls hl => ?_)
          refine lv_iinc (v := (-8)) hx hb dX8_bytesIn_22 hl (k := 1) rfl (by decide) (by decide) (kTo [(2, .int (-8)), (1, .int 3), (0, .int p0)]) (fun ls hl => ?_)
          refine lv_goto (tgt := 5) hx hb dX8_bytesIn_25 (by decide) ?_
          refine lv_iload_n hx hb dX8_bytesIn_5 rfl (lv_at hl 0 rfl) ?_
          refine lv_if_lt (tgt := 28) hx hb dX8_bytesIn_6 (by decide) (fun c_84 => ?_) (fun c_84 => absurd (by decide) c_84)
          refine lv_iload_n hx hb dX8_bytesIn_28 rfl (lv_at hl 1 rfl) ?_
          have hk : kCnt p0 = 3 := by simp [kCnt, kC1, hy_4, hy_52, hy_76, hy_81, c_5, c_53, c_77, c_82]
          rw [hQ]
          exact W.iret (v := 3) hx hb hr (fun t ht hW => ⟨3, rfl, (by rw [hk]; rfl), ht⟩) (fun _ h => nomatch h) dX8_bytesIn_29
      · refine lv_iinc (v := 3) hx hb dX8_bytesIn_19 hl (k := 1) rfl (by decide) (by decide) (kTo [(1, .int 3), (2, .int 8), (0, .int p0)]) (fun ls hl => ?_)
        refine lv_iinc (v := 0) hx hb dX8_bytesIn_22 hl (k := 1) rfl (by decide) (by decide) (kTo [(2, .int 0), (1, .int 3), (0, .int p0)]) (fun ls hl => ?_)
        refine lv_goto (tgt := 5) hx hb dX8_bytesIn_25 (by decide) ?_
        refine lv_iload_n hx hb dX8_bytesIn_5 rfl (lv_at hl 0 rfl) ?_
        refine lv_if_lt (tgt := 28) hx hb dX8_bytesIn_6 (by decide) (fun c_85 => absurd c_85 (by decide)) (fun c_85 => ?_)
        refine lv_iload_n hx hb dX8_bytesIn_9 rfl (lv_at hl 2 rfl) ?_
        refine lv_iload_n hx hb dX8_bytesIn_10 rfl (lv_at hl 0 rfl) ?_
        obtain ⟨x_86, ex_86⟩ : ∃ z : Int32, z = (Int32.toUInt32 p0 >>> (Int32.toUInt32 0 &&& Int32.toUInt32 31)).toInt32 := ⟨_, rfl⟩
        refine lv_iushr (v := x_86) hx hb dX8_bytesIn_11 ex_86.symm ?_
        refine lv_sipush (v := 255) hx hb dX8_bytesIn_12 (by decide) ?_
        refine lv_iand hx hb dX8_bytesIn_15 ?_
        refine lv_topi (fun x_87 ex_87 => ?_)
        have hy_88 : kS p0 0 = x_87 := by rw [ex_87, ex_86]; exact (kSu0 p0).symm
        refine lv_if_eq (tgt := 22) hx hb dX8_bytesIn_16 (by decide) (fun c_89 => ?_) (fun c_89 => ?_)
        · refine lv_iinc (v := (-8)) hx hb dX8_bytesIn_22 hl (k := 0) rfl (by decide) (by decide) (kTo [(2, .int (-8)), (1, .int 3), (0, .int p0)]) (fun ls hl => ?_)
          refine lv_goto (tgt := 5) hx hb dX8_bytesIn_25 (by decide) ?_
          refine lv_iload_n hx hb dX8_bytesIn_5 rfl (lv_at hl 0 rfl) ?_
          refine lv_if_lt (tgt := 28) hx hb dX8_bytesIn_6 (by decide) (fun c_90 => ?_) (fun c_90 => absurd (by decide) c_90)
          refine lv_iload_n hx hb dX8_bytesIn_28 rfl (lv_at hl 1 rfl) ?_
          have hk : kCnt p0 = 3 := by simp [kCnt, kC1, hy_4, hy_52, hy_76, hy_88, c_5, c_53, c_77, c_89]
          rw [hQ]
          exact W.iret (v := 3) hx hb hr (fun t ht hW => ⟨3, rfl, (by rw [hk]; rfl), ht⟩) (fun _ h => nomatch h) dX8_bytesIn_29
        · refine lv_iinc (v := 4) hx hb dX8_bytesIn_19 hl (k := 1) rfl (by decide) (by decide) (kTo [(1, .int 4), (2, .int 0), (0, .int p0)]) (fun ls hl => ?_)
          refine lv_iinc (v := (-8)) hx hb dX8_bytesIn_22 hl (k := 1) rfl (by decide) (by decide) (kTo [(2, .int (-8)), (1, .int 4), (0, .int p0)]) (fun ls hl => ?_)
          refine lv_goto (tgt := 5) hx hb dX8_bytesIn_25 (by decide) ?_
          refine lv_iload_n hx hb dX8_bytesIn_5 rfl (lv_at hl 0 rfl) ?_
          refine lv_if_lt (tgt := 28) hx hb dX8_bytesIn_6 (by decide) (fun c_91 => ?_) (fun c_91 => absurd (by decide) c_91)
          refine lv_iload_n hx hb dX8_bytesIn_28 rfl (lv_at hl 1 rfl) ?_
          have hk : kCnt p0 = 4 := by simp [kCnt, kC1, hy_4, hy_52, hy_76, hy_88, c_5, c_53, c_77, c_89]
          rw [hQ]
          exact W.iret (v := 4) hx hb hr (fun t ht hW => ⟨4, rfl, (by rw [hk]; rfl), ht⟩) (fun _ h => nomatch h) dX8_bytesIn_29

def w_s_append8x : List Cond := .code yX8_append cX8_append 4 none :: ([.fieldLink RX8 15 "NotEnded$Tape" "length" "I", .fieldLink RX8 9 "NotEnded$Tape" "signs" "[C"] ++ (wsX80))
theorem gw_s_append8x : (w_s_append8x).all goodWord = true := kGc rfl (kGa (by decide +kernel) gw_wsX80)
set_option maxHeartbeats 4000000 in
set_option maxRecDepth 100000 in
theorem s_append8x (l : Launch) (dC : Nat → ClassId) (dI : Nat → Nat → Nat) (jT : Nat) (t0 : Nat) (cC : ClassId) (gT : Nat → Int32) (kt : Nat) (hkt : kt ≤ 120) (bt : Nat → Nat) (hbt : ∀ j : Nat, gT j = nI (bt j)) (hb8 : ∀ j : Nat, bt j < 256) (p0 : Int32) (hk9 : kt + kCnt p0 ≤ 120) (sz : Nat) : Met l yX8_append w_s_append8x ({ frames := 1, cells := 0, slots := 0, locals := 60 }) (kW dC dI [.ref jT, .int p0] [(jT, .inr (8, [.ref t0, .int (nI (kt))])), (t0, .inl (cC, 120, .inl gT))] [(cC, .char)] kT sz) (va_Qv (fun (u : (Nat → Int32) × Nat × (Nat → Nat)) => match u with | (gU, ku, tU) => (kPut p0 (bt, kt) = (tU, ku) ∧ (∀ j : Nat, gU j = nI (tU j)) ∧ (∀ j : Nat, tU j < 256) ∧ ku = kt + kCnt p0)) (fun (u : (Nat → Int32) × Nat × (Nat → Nat)) => match u with | (gU, ku, tU) => fun t : State => kB dC dI [(jT, .inr (8, [.ref t0, .int (nI (ku))])), (t0, .inl (cC, 120, .inl gU))] [(cC, .char)] (va_A [(jT, .inr (8, [.ref t0, .int (nI (kt))])), (t0, .inl (cC, 120, .inl gT))] sz) t) (va_A [(jT, .inr (8, [.ref t0, .int (nI (kt))])), (t0, .inl (cC, 120, .inl gT))] sz)) 0 0 (va_A [(jT, .inr (8, [.ref t0, .int (nI (kt))])), (t0, .inl (cC, 120, .inl gT))] sz) := by
  refine Met.ofW (cc := cX8_append) (maxL := 4) (ret := none) (by decide) rfl ?_
  intro p e s m args below meth c s₁ B hml hv
  obtain ⟨rfl, hsz, hP, hK, hD0, hX⟩ := hv
  have hx := B.exec
  have hb := B.bytes
  have hr := B.returns
  have hts := atoms_spec (ws := w_s_append8x) B.pre
  have hown : s.vm.findClass RX8 = some m.cls := findClass_of_methodNamed B.named
  have hlocks := B.notSynchronized
  subst hsz
  have hD := hD0.self (sz := s.heap.size)
  generalize hAe : va_A [(jT, .inr (8, [.ref t0, .int (nI (kt))])), (t0, .inl (cC, 120, .inl gT))] s.heap.size = A at hD ⊢
  have hA : ∀ q : Nat, s.heap.size ≤ q → A q := fun q h => by rw [← hAe]; exact Or.inr h
  have hS : va_S A s.heap s.heap [] := va_S.rf
  have hP : va_P (dC, dI) vwCl [(jT, .inr (8, [.ref t0, .int (nI (kt))])), (t0, .inl (cC, 120, .inl gT))] s.heap := hP
  have hl := lv_entry ([.ref jT, .int p0]) (n := 4) (Nat.le_of_ble_eq_true rfl)
  rw [lg_entry_eq]
  generalize (lg_sl ([.ref jT, .int p0]) ++ List.replicate (4 - (lg_sl ([.ref jT, .int p0])).length) Slot.unset).toArray = ls at hl ⊢
  have hl : lv_has ls 4 [(0, .ref jT), (1, .int p0)] := hl
  refine kQ (fun Q hQ => ?_)
  have hu9 : kCnt p0 = kC1 p0 24 + kC1 p0 16 + kC1 p0 8 + kC1 p0 0 := rfl
  refine lv_bipush (v := 24) hx hb dX8_append_0 (by decide) ?_
  refine lv_istore_n hx hb dX8_append_2 rfl hl (by decide) (kTo [(2, .int 24), (0, .ref jT), (1, .int p0)]) (fun ls hl => ?_)
  refine lv_iload_n hx hb dX8_append_3 rfl (lv_at hl 0 rfl) ?_
  refine lv_if_lt (tgt := 58) hx hb dX8_append_4 (by decide) (fun c_1 => absurd c_1 (by decide)) (fun c_1 => ?_)
  refine lv_iload_n hx hb dX8_append_7 rfl (lv_at hl 2 rfl) ?_
  refine lv_iload_n hx hb dX8_append_8 rfl (lv_at hl 0 rfl) ?_
  obtain ⟨x_2, ex_2⟩ : ∃ z : Int32, z = (Int32.toUInt32 p0 >>> (Int32.toUInt32 24 &&& Int32.toUInt32 31)).toInt32 := ⟨_, rfl⟩
  refine lv_iushr (v := x_2) hx hb dX8_append_9 ex_2.symm ?_
  refine lv_sipush (v := 255) hx hb dX8_append_10 (by decide) ?_
  refine lv_iand hx hb dX8_append_13 ?_
  refine lv_topi (fun x_3 ex_3 => ?_)
  refine lv_istore_n hx hb dX8_append_14 rfl hl (by decide) (kTo [(3, .int x_3), (2, .int 24), (0, .ref jT), (1, .int p0)]) (fun ls hl => ?_)
  refine lv_iload_n hx hb dX8_append_15 rfl (lv_at hl 0 rfl) ?_
  have hy_4 : kS p0 24 = x_3 := by rw [ex_3, ex_2]; exact (kSu24 p0).symm
  refine lv_if_eq (tgt := 52) hx hb dX8_append_16 (by decide) (fun c_5 => ?_) (fun c_5 => ?_)
  · refine lv_iinc (v := 16) hx hb dX8_append_52 hl (k := 1) rfl (by decide) (by decide) (kTo [(2, .int 16), (3, .int x_3), (0, .ref jT), (1, .int p0)]) (fun ls hl => ?_)
    refine lv_goto (tgt := 3) hx hb dX8_append_55 (by decide) ?_
    refine lv_iload_n hx hb dX8_append_3 rfl (lv_at hl 0 rfl) ?_
    refine lv_if_lt (tgt := 58) hx hb dX8_append_4 (by decide) (fun c_6 => absurd c_6 (by decide)) (fun c_6 => ?_)
    refine lv_iload_n hx hb dX8_append_7 rfl (lv_at hl 3 rfl) ?_
    refine lv_iload_n hx hb dX8_append_8 rfl (lv_at hl 0 rfl) ?_
    obtain ⟨x_7, ex_7⟩ : ∃ z : Int32, z = (Int32.toUInt32 p0 >>> (Int32.toUInt32 16 &&& Int32.toUInt32 31)).toInt32 := ⟨_, rfl⟩
    refine lv_iushr (v := x_7) hx hb dX8_append_9 ex_7.symm ?_
    refine lv_sipush (v := 255) hx hb dX8_append_10 (by decide) ?_
    refine lv_iand hx hb dX8_append_13 ?_
    refine lv_topi (fun x_8 ex_8 => ?_)
    refine lv_istore_n hx hb dX8_append_14 rfl hl (by decide) (kTo [(3, .int x_8), (2, .int 16), (0, .ref jT), (1, .int p0)]) (fun ls hl => ?_)
    refine lv_iload_n hx hb dX8_append_15 rfl (lv_at hl 0 rfl) ?_
    have hy_9 : kS p0 16 = x_8 := by rw [ex_8, ex_7]; exact (kSu16 p0).symm
    refine lv_if_eq (tgt := 52) hx hb dX8_append_16 (by decide) (fun c_10 => ?_) (fun c_10 => ?_)
    · refine lv_iinc (v := 8) hx hb dX8_append_52 hl (k := 1) rfl (by decide) (by decide) (kTo [(2, .int 8), (3, .int x_8), (0, .ref jT), (1, .int p0)]) (fun ls hl => ?_)
      refine lv_goto (tgt := 3) hx hb dX8_append_55 (by decide) ?_
      refine lv_iload_n hx hb dX8_append_3 rfl (lv_at hl 0 rfl) ?_
      refine lv_if_lt (tgt := 58) hx hb dX8_append_4 (by decide) (fun c_11 => absurd c_11 (by decide)) (fun c_11 => ?_)
      refine lv_iload_n hx hb dX8_append_7 rfl (lv_at hl 3 rfl) ?_
      refine lv_iload_n hx hb dX8_append_8 rfl (lv_at hl 0 rfl) ?_
      obtain ⟨x_12, ex_12⟩ : ∃ z : Int32, z = (Int32.toUInt32 p0 >>> (Int32.toUInt32 8 &&& Int32.toUInt32 31)).toInt32 := ⟨_, rfl⟩
      refine lv_iushr (v := x_12) hx hb dX8_append_9 ex_12.symm ?_
      refine lv_sipush (v := 255) hx hb dX8_append_10 (by decide) ?_
      refine lv_iand hx hb dX8_append_13 ?_
      refine lv_topi (fun x_13 ex_13 => ?_)
      refine lv_istore_n hx hb dX8_append_14 rfl hl (by decide) (kTo [(3, .int x_13), (2, .int 8), (0, .ref jT), (1, .int p0)]) (fun ls hl => ?_)
      refine lv_iload_n hx hb dX8_append_15 rfl (lv_at hl 0 rfl) ?_
      have hy_14 : kS p0 8 = x_13 := by rw [ex_13, ex_12]; exact (kSu8 p0).symm
      refine lv_if_eq (tgt := 52) hx hb dX8_append_16 (by decide) (fun c_15 => ?_) (fun c_15 => ?_)
      · refine lv_iinc (v := 0) hx hb dX8_append_52 hl (k := 1) rfl (by decide) (by decide) (kTo [(2, .int 0), (3, .int x_13), (0, .ref jT), (1, .int p0)]) (fun ls hl => ?_)
        refine lv_goto (tgt := 3) hx hb dX8_append_55 (by decide) ?_
        refine lv_iload_n hx hb dX8_append_3 rfl (lv_at hl 0 rfl) ?_
        refine lv_if_lt (tgt := 58) hx hb dX8_append_4 (by decide) (fun c_16 => absurd c_16 (by decide)) (fun c_16 => ?_)
        refine lv_iload_n hx hb dX8_append_7 rfl (lv_at hl 3 rfl) ?_
        refine lv_iload_n hx hb dX8_append_8 rfl (lv_at hl 0 rfl) ?_
        obtain ⟨x_17, ex_17⟩ : ∃ z : Int32, z = (Int32.toUInt32 p0 >>> (Int32.toUInt32 0 &&& Int32.toUInt32 31)).toInt32 := ⟨_, rfl⟩
        refine lv_iushr (v := x_17) hx hb dX8_append_9 ex_17.symm ?_
        refine lv_sipush (v := 255) hx hb dX8_append_10 (by decide) ?_
        refine lv_iand hx hb dX8_append_13 ?_
        refine lv_topi (fun x_18 ex_18 => ?_)
        refine lv_istore_n hx hb dX8_append_14 rfl hl (by decide) (kTo [(3, .int x_18), (2, .int 0), (0, .ref jT), (1, .int p0)]) (fun ls hl => ?_)
        refine lv_iload_n hx hb dX8_append_15 rfl (lv_at hl 0 rfl) ?_
        have hy_19 : kS p0 0 = x_18 := by rw [ex_18, ex_17]; exact (kSu0 p0).symm
        refine lv_if_eq (tgt := 52) hx hb dX8_append_16 (by decide) (fun c_20 => ?_) (fun c_20 => ?_)
        · refine lv_iinc (v := (-8)) hx hb dX8_append_52 hl (k := 1) rfl (by decide) (by decide) (kTo [(2, .int (-8)), (3, .int x_18), (0, .ref jT), (1, .int p0)]) (fun ls hl => ?_)
          refine lv_goto (tgt := 3) hx hb dX8_append_55 (by decide) ?_
          refine lv_iload_n hx hb dX8_append_3 rfl (lv_at hl 0 rfl) ?_
          refine lv_if_lt (tgt := 58) hx hb dX8_append_4 (by decide) (fun c_21 => ?_) (fun c_21 => absurd (by decide) c_21)
          have hk8 : kCnt p0 = 0 := by simp [kCnt, kC1, hy_4, hy_9, hy_14, hy_19, c_5, c_10, c_15, c_20]
          have hP9 := hP
          have hD9 := hD
          have hK9 := hK
          rw [hQ]
          exact W.vret hx hb hr (fun t ht hW => ⟨⟨(gT, kt, bt), rfl, ⟨by unfold kPut; rw [kP1_z (k := 24) (hy_4.trans c_5), kP1_z (k := 16) (hy_9.trans c_10), kP1_z (k := 8) (hy_14.trans c_15), kP1_z (k := 0) (hy_19.trans c_20)], hbt, hb8, by omega⟩,  by rw [ht]; exact hP9, va_K.moved hW.alike hK9, hD9⟩, hS.F ht⟩) hS.2.2 dX8_append_58
        · refine lv_aload_n hx hb dX8_append_19 rfl (lv_at hl 2 rfl) ?_
          refine va_get (D := (dC, dI)) (ci := 8) (v := .int (nI (kt))) (C := RX8) (T := TX8) (N := 2) hx hb hts (fun _ h => List.mem_cons_of_mem _ (List.mem_append_right _ h)) hown hK hP 0 rfl rfl 1 (by decide) (hts (.fieldLink RX8 15 "NotEnded$Tape" "length" "I") (List.mem_cons_of_mem _ (List.mem_append_left _ (List.mem_of_getElem? (i := 0) rfl)))) (fun _ h9 => h9) rfl dX8_append_20 ?_
          refine lv_aload_n hx hb dX8_append_23 rfl (lv_at hl 2 rfl) ?_
          refine va_get (D := (dC, dI)) (ci := 8) (v := .ref t0) (C := RX8) (T := TX8) (N := 2) hx hb hts (fun _ h => List.mem_cons_of_mem _ (List.mem_append_right _ h)) hown hK hP 0 rfl rfl 0 (by decide) (hts (.fieldLink RX8 9 "NotEnded$Tape" "signs" "[C") (List.mem_cons_of_mem _ (List.mem_append_left _ (List.mem_of_getElem? (i := 1) rfl)))) (fun _ h9 => h9) rfl dX8_append_24 ?_
          refine va_alen hx hb hK hP 1 0 rfl rfl (v := 120) rfl dX8_append_27 ?_
          have hy_19_c : kC1 p0 0 = 1 := by simp [kC1, hy_19, c_20]
          refine lv_icmp_ge (tgt := 52) hx hb dX8_append_28 (by decide) (fun c_22 => absurd c_22 (nI_ge (a := kt) (b := 120) (by omega) (by decide))) (fun c_22 => ?_)
          refine lv_aload_n hx hb dX8_append_31 rfl (lv_at hl 2 rfl) ?_
          refine va_get (D := (dC, dI)) (ci := 8) (v := .ref t0) (C := RX8) (T := TX8) (N := 2) hx hb hts (fun _ h => List.mem_cons_of_mem _ (List.mem_append_right _ h)) hown hK hP 0 rfl rfl 0 (by decide) (hts (.fieldLink RX8 9 "NotEnded$Tape" "signs" "[C") (List.mem_cons_of_mem _ (List.mem_append_left _ (List.mem_of_getElem? (i := 1) rfl)))) (fun _ h9 => h9) rfl dX8_append_32 ?_
          refine lv_aload_n hx hb dX8_append_35 rfl (lv_at hl 2 rfl) ?_
          refine va_get (D := (dC, dI)) (ci := 8) (v := .int (nI (kt))) (C := RX8) (T := TX8) (N := 2) hx hb hts (fun _ h => List.mem_cons_of_mem _ (List.mem_append_right _ h)) hown hK hP 0 rfl rfl 1 (by decide) (hts (.fieldLink RX8 15 "NotEnded$Tape" "length" "I") (List.mem_cons_of_mem _ (List.mem_append_left _ (List.mem_of_getElem? (i := 0) rfl)))) (fun _ h9 => h9) rfl dX8_append_36 ?_
          refine lv_iload_n hx hb dX8_append_39 rfl (lv_at hl 0 rfl) ?_
          obtain ⟨x_23, ex_23⟩ : ∃ z : Int32, z = (Int32.toUInt32 x_18 % 65536).toInt32 := ⟨_, rfl⟩
          refine lv_i2c (v := x_23) hx hb dX8_append_40 ex_23.symm ?_
          refine va_cast hx hb hK hP hD hS 1 0 rfl rfl (vp_in_nI (n := kt) (N := 120) (by omega) (by omega)) dX8_append_41 (fun H locs hP hD hS => ?_)
          obtain ⟨f_24, ef_24⟩ : ∃ gg9 : Nat → Int32, gg9 = upd gT (Int32.toNatClampNeg (nI (kt))) (vp_nar .char x_23) := ⟨_, rfl⟩
          obtain ⟨hP, hD⟩ : kPD dC dI A [(jT, .inr (8, [.ref t0, .int (nI (kt))])), (t0, .inl (cC, 120, .inl f_24))] H := by rw [ef_24]; exact ⟨hP, hD⟩
          refine lv_aload_n hx hb dX8_append_42 rfl (lv_at hl 2 rfl) ?_
          refine lv_dup hx hb dX8_append_43 rfl ?_
          refine va_get (D := (dC, dI)) (ci := 8) (v := .int (nI (kt))) (C := RX8) (T := TX8) (N := 2) hx hb hts (fun _ h => List.mem_cons_of_mem _ (List.mem_append_right _ h)) hown hK hP 0 rfl rfl 1 (by decide) (hts (.fieldLink RX8 15 "NotEnded$Tape" "length" "I") (List.mem_cons_of_mem _ (List.mem_append_left _ (List.mem_of_getElem? (i := 0) rfl)))) (fun _ h9 => h9) rfl dX8_append_44 ?_
          refine lv_iconst (v := 1) hx hb dX8_append_47 (by decide) ?_
          refine lv_iadd hx hb dX8_append_48 ?_
          refine lv_topi (fun y_25 ey_25 => ?_)
          obtain rfl : y_25 = nI (kt + 1) := ey_25.trans (nI_add (kt) (1))
          refine va_put (D := (dC, dI)) (ci := 8) (v := .int (nI (kt + 1))) (ty := tyX8 1) (C := RX8) (T := TX8) (N := 2) hx hb hts (fun _ h => List.mem_cons_of_mem _ (List.mem_append_right _ h)) tyX8 tyX8_ok nmX8 hown hK hP hD hS 0 rfl rfl 1 (by decide) (hts (.fieldLink RX8 15 "NotEnded$Tape" "length" "I") (List.mem_cons_of_mem _ (List.mem_append_left _ (List.mem_of_getElem? (i := 0) rfl)))) (fun _ h9 => h9) rfl (tyX8_ok 1 (by decide)) rfl rfl (Nat.le_of_ble_eq_true rfl) dX8_append_49 (fun H locs hP hD hS => ?_)
          obtain ⟨hP, hD⟩ : kPD dC dI A [(jT, .inr (8, [.ref t0, .int (nI (kt + 1))])), (t0, .inl (cC, 120, .inl f_24))] H := ⟨hP, hD⟩
          refine lv_iinc (v := (-8)) hx hb dX8_append_52 hl (k := 1) rfl (by decide) (by decide) (kTo [(2, .int (-8)), (3, .int x_18), (0, .ref jT), (1, .int p0)]) (fun ls hl => ?_)
          refine lv_goto (tgt := 3) hx hb dX8_append_55 (by decide) ?_
          refine lv_iload_n hx hb dX8_append_3 rfl (lv_at hl 0 rfl) ?_
          refine lv_if_lt (tgt := 58) hx hb dX8_append_4 (by decide) (fun c_26 => ?_) (fun c_26 => absurd (by decide) c_26)
          have hk8 : kCnt p0 = 1 := by simp [kCnt, kC1, hy_4, hy_9, hy_14, hy_19, c_5, c_10, c_15, c_20]
          have hP9 := hP
          have hD9 := hD
          have hK9 := hK
          rw [hQ]
          exact W.vret hx hb hr (fun t ht hW => ⟨⟨(f_24, (kt + 1), (kUpN bt kt (kSn p0 0))), rfl, ⟨by unfold kPut; rw [kP1_z (k := 24) (hy_4.trans c_5), kP1_z (k := 16) (hy_9.trans c_10), kP1_z (k := 8) (hy_14.trans c_15), kP1_n (k := 0) (fun z => c_20 (hy_19.symm.trans z))], (kUpB (by omega) ef_24 ex_23 hy_19 hbt), (kUp8 hb8), by omega⟩,  by rw [ht]; exact hP9, va_K.moved hW.alike hK9, hD9⟩, hS.F ht⟩) hS.2.2 dX8_append_58
      · refine lv_aload_n hx hb dX8_append_19 rfl (lv_at hl 2 rfl) ?_
        refine va_get (D := (dC, dI)) (ci := 8) (v := .int (nI (kt))) (C := RX8) (T := TX8) (N := 2) hx hb hts (fun _ h => List.mem_cons_of_mem _ (List.mem_append_right _ h)) hown hK hP 0 rfl rfl 1 (by decide) (hts (.fieldLink RX8 15 "NotEnded$Tape" "length" "I") (List.mem_cons_of_mem _ (List.mem_append_left _ (List.mem_of_getElem? (i := 0) rfl)))) (fun _ h9 => h9) rfl dX8_append_20 ?_
        refine lv_aload_n hx hb dX8_append_23 rfl (lv_at hl 2 rfl) ?_
        refine va_get (D := (dC, dI)) (ci := 8) (v := .ref t0) (C := RX8) (T := TX8) (N := 2) hx hb hts (fun _ h => List.mem_cons_of_mem _ (List.mem_append_right _ h)) hown hK hP 0 rfl rfl 0 (by decide) (hts (.fieldLink RX8 9 "NotEnded$Tape" "signs" "[C") (List.mem_cons_of_mem _ (List.mem_append_left _ (List.mem_of_getElem? (i := 1) rfl)))) (fun _ h9 => h9) rfl dX8_append_24 ?_
        refine va_alen hx hb hK hP 1 0 rfl rfl (v := 120) rfl dX8_append_27 ?_
        have hy_14_c : kC1 p0 8 = 1 := by simp [kC1, hy_14, c_15]
        refine lv_icmp_ge (tgt := 52) hx hb dX8_append_28 (by decide) (fun c_27 => absurd c_27 (nI_ge (a := kt) (b := 120) (by omega) (by decide))) (fun c_27 => ?_)
        refine lv_aload_n hx hb dX8_append_31 rfl (lv_at hl 2 rfl) ?_
        refine va_get (D := (dC, dI)) (ci := 8) (v := .ref t0) (C := RX8) (T := TX8) (N := 2) hx hb hts (fun _ h => List.mem_cons_of_mem _ (List.mem_append_right _ h)) hown hK hP 0 rfl rfl 0 (by decide) (hts (.fieldLink RX8 9 "NotEnded$Tape" "signs" "[C") (List.mem_cons_of_mem _ (List.mem_append_left _ (List.mem_of_getElem? (i := 1) rfl)))) (fun _ h9 => h9) rfl dX8_append_32 ?_
        refine lv_aload_n hx hb dX8_append_35 rfl (lv_at hl 2 rfl) ?_
        refine va_get (D := (dC, dI)) (ci := 8) (v := .int (nI (kt))) (C := RX8) (T := TX8) (N := 2) hx hb hts (fun _ h => List.mem_cons_of_mem _ (List.mem_append_right _ h)) hown hK hP 0 rfl rfl 1 (by decide) (hts (.fieldLink RX8 15 "NotEnded$Tape" "length" "I") (List.mem_cons_of_mem _ (List.mem_append_left _ (List.mem_of_getElem? (i := 0) rfl)))) (fun _ h9 => h9) rfl dX8_append_36 ?_
        refine lv_iload_n hx hb dX8_append_39 rfl (lv_at hl 0 rfl) ?_
        obtain ⟨x_28, ex_28⟩ : ∃ z : Int32, z = (Int32.toUInt32 x_13 % 65536).toInt32 := ⟨_, rfl⟩
        refine lv_i2c (v := x_28) hx hb dX8_append_40 ex_28.symm ?_
        refine va_cast hx hb hK hP hD hS 1 0 rfl rfl (vp_in_nI (n := kt) (N := 120) (by omega) (by omega)) dX8_append_41 (fun H locs hP hD hS => ?_)
        obtain ⟨f_29, ef_29⟩ : ∃ gg9 : Nat → Int32, gg9 = upd gT (Int32.toNatClampNeg (nI (kt))) (vp_nar .char x_28) := ⟨_, rfl⟩
        obtain ⟨hP, hD⟩ : kPD dC dI A [(jT, .inr (8, [.ref t0, .int (nI (kt))])), (t0, .inl (cC, 120, .inl f_29))] H := by rw [ef_29]; exact ⟨hP, hD⟩
        refine lv_aload_n hx hb dX8_append_42 rfl (lv_at hl 2 rfl) ?_
        refine lv_dup hx hb dX8_append_43 rfl ?_
        refine va_get (D := (dC, dI)) (ci := 8) (v := .int (nI (kt))) (C := RX8) (T := TX8) (N := 2) hx hb hts (fun _ h => List.mem_cons_of_mem _ (List.mem_append_right _ h)) hown hK hP 0 rfl rfl 1 (by decide) (hts (.fieldLink RX8 15 "NotEnded$Tape" "length" "I") (List.mem_cons_of_mem _ (List.mem_append_left _ (List.mem_of_getElem? (i := 0) rfl)))) (fun _ h9 => h9) rfl dX8_append_44 ?_
        refine lv_iconst (v := 1) hx hb dX8_append_47 (by decide) ?_
        refine lv_iadd hx hb dX8_append_48 ?_
        refine lv_topi (fun y_30 ey_30 => ?_)
        obtain rfl : y_30 = nI (kt + 1) := ey_30.trans (nI_add (kt) (1))
        refine va_put (D := (dC, dI)) (ci := 8) (v := .int (nI (kt + 1))) (ty := tyX8 1) (C := RX8) (T := TX8) (N := 2) hx hb hts (fun _ h => List.mem_cons_of_mem _ (List.mem_append_right _ h)) tyX8 tyX8_ok nmX8 hown hK hP hD hS 0 rfl rfl 1 (by decide) (hts (.fieldLink RX8 15 "NotEnded$Tape" "length" "I") (List.mem_cons_of_mem _ (List.mem_append_left _ (List.mem_of_getElem? (i := 0) rfl)))) (fun _ h9 => h9) rfl (tyX8_ok 1 (by decide)) rfl rfl (Nat.le_of_ble_eq_true rfl) dX8_append_49 (fun H locs hP hD hS => ?_)
        obtain ⟨hP, hD⟩ : kPD dC dI A [(jT, .inr (8, [.ref t0, .int (nI (kt + 1))])), (t0, .inl (cC, 120, .inl f_29))] H := ⟨hP, hD⟩
        refine lv_iinc (v := 0) hx hb dX8_append_52 hl (k := 1) rfl (by decide) (by decide) (kTo [(2, .int 0), (3, .int x_13), (0, .ref jT), (1, .int p0)]) (fun ls hl => ?_)
        refine lv_goto (tgt := 3) hx hb dX8_append_55 (by decide) ?_
        refine lv_iload_n hx hb dX8_append_3 rfl (lv_at hl 0 rfl) ?_
        refine lv_if_lt (tgt := 58) hx hb dX8_append_4 (by decide) (fun c_31 => absurd c_31 (by decide)) (fun c_31 => ?_)
        refine lv_iload_n hx hb dX8_append_7 rfl (lv_at hl 3 rfl) ?_
        refine lv_iload_n hx hb dX8_append_8 rfl (lv_at hl 0 rfl) ?_
        obtain ⟨x_32, ex_32⟩ : ∃ z : Int32, z = (Int32.toUInt32 p0 >>> (Int32.toUInt32 0 &&& Int32.toUInt32 31)).toInt32 := ⟨_, rfl⟩
        refine lv_iushr (v := x_32) hx hb dX8_append_9 ex_32.symm ?_
        refine lv_sipush (v := 255) hx hb dX8_append_10 (by decide) ?_
        refine lv_iand hx hb dX8_append_13 ?_
        refine lv_topi (fun x_33 ex_33 => ?_)
        refine lv_istore_n hx hb dX8_append_14 rfl hl (by decide) (kTo [(3, .int x_33), (2, .int 0), (0, .ref jT), (1, .int p0)]) (fun ls hl => ?_)
        refine lv_iload_n hx hb dX8_append_15 rfl (lv_at hl 0 rfl) ?_
        have hy_34 : kS p0 0 = x_33 := by rw [ex_33, ex_32]; exact (kSu0 p0).symm
        refine lv_if_eq (tgt := 52) hx hb dX8_append_16 (by decide) (fun c_35 => ?_) (fun c_35 => ?_)
        · refine lv_iinc (v := (-8)) hx hb dX8_append_52 hl (k := 1) rfl (by decide) (by decide) (kTo [(2, .int (-8)), (3, .int x_33), (0, .ref jT), (1, .int p0)]) (fun ls hl => ?_)
          refine lv_goto (tgt := 3) hx hb dX8_append_55 (by decide) ?_
          refine lv_iload_n hx hb dX8_append_3 rfl (lv_at hl 0 rfl) ?_
          refine lv_if_lt (tgt := 58) hx hb dX8_append_4 (by decide) (fun c_36 => ?_) (fun c_36 => absurd (by decide) c_36)
          have hk8 : kCnt p0 = 1 := by simp [kCnt, kC1, hy_4, hy_9, hy_14, hy_34, c_5, c_10, c_15, c_35]
          have hP9 := hP
          have hD9 := hD
          have hK9 := hK
          rw [hQ]
          exact W.vret hx hb hr (fun t ht hW => ⟨⟨(f_29, (kt + 1), (kUpN bt kt (kSn p0 8))), rfl, ⟨by unfold kPut; rw [kP1_z (k := 24) (hy_4.trans c_5), kP1_z (k := 16) (hy_9.trans c_10), kP1_n (k := 8) (fun z => c_15 (hy_14.symm.trans z)), kP1_z (k := 0) (hy_34.trans c_35)], (kUpB (by omega) ef_29 ex_28 hy_14 hbt), (kUp8 hb8), by omega⟩,  by rw [ht]; exact hP9, va_K.moved hW.alike hK9, hD9⟩, hS.F ht⟩) hS.2.2 dX8_append_58
        · refine lv_aload_n hx hb dX8_append_19 rfl (lv_at hl 2 rfl) ?_
          refine va_get (D := (dC, dI)) (ci := 8) (v := .int (nI (kt + 1))) (C := RX8) (T := TX8) (N := 2) hx hb hts (fun _ h => List.mem_cons_of_mem _ (List.mem_append_right _ h)) hown hK hP 0 rfl rfl 1 (by decide) (hts (.fieldLink RX8 15 "NotEnded$Tape" "length" "I") (List.mem_cons_of_mem _ (List.mem_append_left _ (List.mem_of_getElem? (i := 0) rfl)))) (fun _ h9 => h9) rfl dX8_append_20 ?_
          refine lv_aload_n hx hb dX8_append_23 rfl (lv_at hl 2 rfl) ?_
          refine va_get (D := (dC, dI)) (ci := 8) (v := .ref t0) (C := RX8) (T := TX8) (N := 2) hx hb hts (fun _ h => List.mem_cons_of_mem _ (List.mem_append_right _ h)) hown hK hP 0 rfl rfl 0 (by decide) (hts (.fieldLink RX8 9 "NotEnded$Tape" "signs" "[C") (List.mem_cons_of_mem _ (List.mem_append_left _ (List.mem_of_getElem? (i := 1) rfl)))) (fun _ h9 => h9) rfl dX8_append_24 ?_
          refine va_alen hx hb hK hP 1 0 rfl rfl (v := 120) rfl dX8_append_27 ?_
          have hy_34_c : kC1 p0 0 = 1 := by simp [kC1, hy_34, c_35]
          refine lv_icmp_ge (tgt := 52) hx hb dX8_append_28 (by decide) (fun c_37 => absurd c_37 (nI_ge (a := kt + 1) (b := 120) (by omega) (by decide))) (fun c_37 => ?_)
          refine lv_aload_n hx hb dX8_append_31 rfl (lv_at hl 2 rfl) ?_
          refine va_get (D := (dC, dI)) (ci := 8) (v := .ref t0) (C := RX8) (T := TX8) (N := 2) hx hb hts (fun _ h => List.mem_cons_of_mem _ (List.mem_append_right _ h)) hown hK hP 0 rfl rfl 0 (by decide) (hts (.fieldLink RX8 9 "NotEnded$Tape" "signs" "[C") (List.mem_cons_of_mem _ (List.mem_append_left _ (List.mem_of_getElem? (i := 1) rfl)))) (fun _ h9 => h9) rfl dX8_append_32 ?_
          refine lv_aload_n hx hb dX8_append_35 rfl (lv_at hl 2 rfl) ?_
          refine va_get (D := (dC, dI)) (ci := 8) (v := .int (nI (kt + 1))) (C := RX8) (T := TX8) (N := 2) hx hb hts (fun _ h => List.mem_cons_of_mem _ (List.mem_append_right _ h)) hown hK hP 0 rfl rfl 1 (by decide) (hts (.fieldLink RX8 15 "NotEnded$Tape" "length" "I") (List.mem_cons_of_mem _ (List.mem_append_left _ (List.mem_of_getElem? (i := 0) rfl)))) (fun _ h9 => h9) rfl dX8_append_36 ?_
          refine lv_iload_n hx hb dX8_append_39 rfl (lv_at hl 0 rfl) ?_
          obtain ⟨x_38, ex_38⟩ : ∃ z : Int32, z = (Int32.toUInt32 x_33 % 65536).toInt32 := ⟨_, rfl⟩
          refine lv_i2c (v := x_38) hx hb dX8_append_40 ex_38.symm ?_
          refine va_cast hx hb hK hP hD hS 1 0 rfl rfl (vp_in_nI (n := kt + 1) (N := 120) (by omega) (by omega)) dX8_append_41 (fun H locs hP hD hS => ?_)
          obtain ⟨f_39, ef_39⟩ : ∃ gg9 : Nat → Int32, gg9 = upd f_29 (Int32.toNatClampNeg (nI (kt + 1))) (vp_nar .char x_38) := ⟨_, rfl⟩
          obtain ⟨hP, hD⟩ : kPD dC dI A [(jT, .inr (8, [.ref t0, .int (nI (kt + 1))])), (t0, .inl (cC, 120, .inl f_39))] H := by rw [ef_39]; exact ⟨hP, hD⟩
          refine lv_aload_n hx hb dX8_append_42 rfl (lv_at hl 2 rfl) ?_
          refine lv_dup hx hb dX8_append_43 rfl ?_
          refine va_get (D := (dC, dI)) (ci := 8) (v := .int (nI (kt + 1))) (C := RX8) (T := TX8) (N := 2) hx hb hts (fun _ h => List.mem_cons_of_mem _ (List.mem_append_right _ h)) hown hK hP 0 rfl rfl 1 (by decide) (hts (.fieldLink RX8 15 "NotEnded$Tape" "length" "I") (List.mem_cons_of_mem _ (List.mem_append_left _ (List.mem_of_getElem? (i := 0) rfl)))) (fun _ h9 => h9) rfl dX8_append_44 ?_
          refine lv_iconst (v := 1) hx hb dX8_append_47 (by decide) ?_
          refine lv_iadd hx hb dX8_append_48 ?_
          refine lv_topi (fun y_40 ey_40 => ?_)
          obtain rfl : y_40 = nI (kt + 1 + 1) := ey_40.trans (nI_add (kt + 1) (1))
          refine va_put (D := (dC, dI)) (ci := 8) (v := .int (nI (kt + 1 + 1))) (ty := tyX8 1) (C := RX8) (T := TX8) (N := 2) hx hb hts (fun _ h => List.mem_cons_of_mem _ (List.mem_append_right _ h)) tyX8 tyX8_ok nmX8 hown hK hP hD hS 0 rfl rfl 1 (by decide) (hts (.fieldLink RX8 15 "NotEnded$Tape" "length" "I") (List.mem_cons_of_mem _ (List.mem_append_left _ (List.mem_of_getElem? (i := 0) rfl)))) (fun _ h9 => h9) rfl (tyX8_ok 1 (by decide)) rfl rfl (Nat.le_of_ble_eq_true rfl) dX8_append_49 (fun H locs hP hD hS => ?_)
          obtain ⟨hP, hD⟩ : kPD dC dI A [(jT, .inr (8, [.ref t0, .int (nI (kt + 1 + 1))])), (t0, .inl (cC, 120, .inl f_39))] H := ⟨hP, hD⟩
          refine lv_iinc (v := (-8)) hx hb dX8_append_52 hl (k := 1) rfl (by decide) (by decide) (kTo [(2, .int (-8)), (3, .int x_33), (0, .ref jT), (1, .int p0)]) (fun ls hl => ?_)
          refine lv_goto (tgt := 3) hx hb dX8_append_55 (by decide) ?_
          refine lv_iload_n hx hb dX8_append_3 rfl (lv_at hl 0 rfl) ?_
          refine lv_if_lt (tgt := 58) hx hb dX8_append_4 (by decide) (fun c_41 => ?_) (fun c_41 => absurd (by decide) c_41)
          have hk8 : kCnt p0 = 2 := by simp [kCnt, kC1, hy_4, hy_9, hy_14, hy_34, c_5, c_10, c_15, c_35]
          have hP9 := hP
          have hD9 := hD
          have hK9 := hK
          rw [hQ]
          exact W.vret hx hb hr (fun t ht hW => ⟨⟨(f_39, (kt + 1 + 1), (kUpN (kUpN bt kt (kSn p0 8)) (kt + 1) (kSn p0 0))), rfl, ⟨by unfold kPut; rw [kP1_z (k := 24) (hy_4.trans c_5), kP1_z (k := 16) (hy_9.trans c_10), kP1_n (k := 8) (fun z => c_15 (hy_14.symm.trans z)), kP1_n (k := 0) (fun z => c_35 (hy_34.symm.trans z))], (kUpB (by omega) ef_39 ex_38 hy_34 (kUpB (by omega) ef_29 ex_28 hy_14 hbt)), (kUp8 (kUp8 hb8)), by omega⟩,  by rw [ht]; exact hP9, va_K.moved hW.alike hK9, hD9⟩, hS.F ht⟩) hS.2.2 dX8_append_58
    · refine lv_aload_n hx hb dX8_append_19 rfl (lv_at hl 2 rfl) ?_
      refine va_get (D := (dC, dI)) (ci := 8) (v := .int (nI (kt))) (C := RX8) (T := TX8) (N := 2) hx hb hts (fun _ h => List.mem_cons_of_mem _ (List.mem_append_right _ h)) hown hK hP 0 rfl rfl 1 (by decide) (hts (.fieldLink RX8 15 "NotEnded$Tape" "length" "I") (List.mem_cons_of_mem _ (List.mem_append_left _ (List.mem_of_getElem? (i := 0) rfl)))) (fun _ h9 => h9) rfl dX8_append_20 ?_
      refine lv_aload_n hx hb dX8_append_23 rfl (lv_at hl 2 rfl) ?_
      refine va_get (D := (dC, dI)) (ci := 8) (v := .ref t0) (C := RX8) (T := TX8) (N := 2) hx hb hts (fun _ h => List.mem_cons_of_mem _ (List.mem_append_right _ h)) hown hK hP 0 rfl rfl 0 (by decide) (hts (.fieldLink RX8 9 "NotEnded$Tape" "signs" "[C") (List.mem_cons_of_mem _ (List.mem_append_left _ (List.mem_of_getElem? (i := 1) rfl)))) (fun _ h9 => h9) rfl dX8_append_24 ?_
      refine va_alen hx hb hK hP 1 0 rfl rfl (v := 120) rfl dX8_append_27 ?_
      have hy_9_c : kC1 p0 16 = 1 := by simp [kC1, hy_9, c_10]
      refine lv_icmp_ge (tgt := 52) hx hb dX8_append_28 (by decide) (fun c_42 => absurd c_42 (nI_ge (a := kt) (b := 120) (by omega) (by decide))) (fun c_42 => ?_)
      refine lv_aload_n hx hb dX8_append_31 rfl (lv_at hl 2 rfl) ?_
      refine va_get (D := (dC, dI)) (ci := 8) (v := .ref t0) (C := RX8) (T := TX8) (N := 2) hx hb hts (fun _ h => List.mem_cons_of_mem _ (List.mem_append_right _ h)) hown hK hP 0 rfl rfl 0 (by decide) (hts (.fieldLink RX8 9 "NotEnded$Tape" "signs" "[C") (List.mem_cons_of_mem _ (List.mem_append_left _ (List.mem_of_getElem? (i := 1) rfl)))) (fun _ h9 => h9) rfl dX8_append_32 ?_
      refine lv_aload_n hx hb dX8_append_35 rfl (lv_at hl 2 rfl) ?_
      refine va_get (D := (dC, dI)) (ci := 8) (v := .int (nI (kt))) (C := RX8) (T := TX8) (N := 2) hx hb hts (fun _ h => List.mem_cons_of_mem _ (List.mem_append_right _ h)) hown hK hP 0 rfl rfl 1 (by decide) (hts (.fieldLink RX8 15 "NotEnded$Tape" "length" "I") (List.mem_cons_of_mem _ (List.mem_append_left _ (List.mem_of_getElem? (i := 0) rfl)))) (fun _ h9 => h9) rfl dX8_append_36 ?_
      refine lv_iload_n hx hb dX8_append_39 rfl (lv_at hl 0 rfl) ?_
      obtain ⟨x_43, ex_43⟩ : ∃ z : Int32, z = (Int32.toUInt32 x_8 % 65536).toInt32 := ⟨_, rfl⟩
      refine lv_i2c (v := x_43) hx hb dX8_append_40 ex_43.symm ?_
      refine va_cast hx hb hK hP hD hS 1 0 rfl rfl (vp_in_nI (n := kt) (N := 120) (by omega) (by omega)) dX8_append_41 (fun H locs hP hD hS => ?_)
      obtain ⟨f_44, ef_44⟩ : ∃ gg9 : Nat → Int32, gg9 = upd gT (Int32.toNatClampNeg (nI (kt))) (vp_nar .char x_43) := ⟨_, rfl⟩
      obtain ⟨hP, hD⟩ : kPD dC dI A [(jT, .inr (8, [.ref t0, .int (nI (kt))])), (t0, .inl (cC, 120, .inl f_44))] H := by rw [ef_44]; exact ⟨hP, hD⟩
      refine lv_aload_n hx hb dX8_append_42 rfl (lv_at hl 2 rfl) ?_
      refine lv_dup hx hb dX8_append_43 rfl ?_
      refine va_get (D := (dC, dI)) (ci := 8) (v := .int (nI (kt))) (C := RX8) (T := TX8) (N := 2) hx hb hts (fun _ h => List.mem_cons_of_mem _ (List.mem_append_right _ h)) hown hK hP 0 rfl rfl 1 (by decide) (hts (.fieldLink RX8 15 "NotEnded$Tape" "length" "I") (List.mem_cons_of_mem _ (List.mem_append_left _ (List.mem_of_getElem? (i := 0) rfl)))) (fun _ h9 => h9) rfl dX8_append_44 ?_
      refine lv_iconst (v := 1) hx hb dX8_append_47 (by decide) ?_
      refine lv_iadd hx hb dX8_append_48 ?_
      refine lv_topi (fun y_45 ey_45 => ?_)
      obtain rfl : y_45 = nI (kt + 1) := ey_45.trans (nI_add (kt) (1))
      refine va_put (D := (dC, dI)) (ci := 8) (v := .int (nI (kt + 1))) (ty := tyX8 1) (C := RX8) (T := TX8) (N := 2) hx hb hts (fun _ h => List.mem_cons_of_mem _ (List.mem_append_right _ h)) tyX8 tyX8_ok nmX8 hown hK hP hD hS 0 rfl rfl 1 (by decide) (hts (.fieldLink RX8 15 "NotEnded$Tape" "length" "I") (List.mem_cons_of_mem _ (List.mem_append_left _ (List.mem_of_getElem? (i := 0) rfl)))) (fun _ h9 => h9) rfl (tyX8_ok 1 (by decide)) rfl rfl (Nat.le_of_ble_eq_true rfl) dX8_append_49 (fun H locs hP hD hS => ?_)
      obtain ⟨hP, hD⟩ : kPD dC dI A [(jT, .inr (8, [.ref t0, .int (nI (kt + 1))])), (t0, .inl (cC, 120, .inl f_44))] H := ⟨hP, hD⟩
      refine lv_iinc (v := 8) hx hb dX8_append_52 hl (k := 1) rfl (by decide) (by decide) (kTo [(2, .int 8), (3, .int x_8), (0, .ref jT), (1, .int p0)]) (fun ls hl => ?_)
      refine lv_goto (tgt := 3) hx hb dX8_append_55 (by decide) ?_
      refine lv_iload_n hx hb dX8_append_3 rfl (lv_at hl 0 rfl) ?_
      refine lv_if_lt (tgt := 58) hx hb dX8_append_4 (by decide) (fun c_46 => absurd c_46 (by decide)) (fun c_46 => ?_)
      refine lv_iload_n hx hb dX8_append_7 rfl (lv_at hl 3 rfl) ?_
      refine lv_iload_n hx hb dX8_append_8 rfl (lv_at hl 0 rfl) ?_
      obtain ⟨x_47, ex_47⟩ : ∃ z : Int32, z = (Int32.toUInt32 p0 >>> (Int32.toUInt32 8 &&& Int32.toUInt32 31)).toInt32 := ⟨_, rfl⟩
      refine lv_iushr (v := x_47) hx hb dX8_append_9 ex_47.symm ?_
      refine lv_sipush (v := 255) hx hb dX8_append_10 (by decide) ?_
      refine lv_iand hx hb dX8_append_13 ?_
      refine lv_topi (fun x_48 ex_48 => ?_)
      refine lv_istore_n hx hb dX8_append_14 rfl hl (by decide) (kTo [(3, .int x_48), (2, .int 8), (0, .ref jT), (1, .int p0)]) (fun ls hl => ?_)
      refine lv_iload_n hx hb dX8_append_15 rfl (lv_at hl 0 rfl) ?_
      have hy_49 : kS p0 8 = x_48 := by rw [ex_48, ex_47]; exact (kSu8 p0).symm
      refine lv_if_eq (tgt := 52) hx hb dX8_append_16 (by decide) (fun c_50 => ?_) (fun c_50 => ?_)
      · refine lv_iinc (v := 0) hx hb dX8_append_52 hl (k := 1) rfl (by decide) (by decide) (kTo [(2, .int 0), (3, .int x_48), (0, .ref jT), (1, .int p0)]) (fun ls hl => ?_)
        refine lv_goto (tgt := 3) hx hb dX8_append_55 (by decide) ?_
        refine lv_iload_n hx hb dX8_append_3 rfl (lv_at hl 0 rfl) ?_
        refine lv_if_lt (tgt := 58) hx hb dX8_append_4 (by decide) (fun c_51 => absurd c_51 (by decide)) (fun c_51 => ?_)
        refine lv_iload_n hx hb dX8_append_7 rfl (lv_at hl 3 rfl) ?_
        refine lv_iload_n hx hb dX8_append_8 rfl (lv_at hl 0 rfl) ?_
        obtain ⟨x_52, ex_52⟩ : ∃ z : Int32, z = (Int32.toUInt32 p0 >>> (Int32.toUInt32 0 &&& Int32.toUInt32 31)).toInt32 := ⟨_, rfl⟩
        refine lv_iushr (v := x_52) hx hb dX8_append_9 ex_52.symm ?_
        refine lv_sipush (v := 255) hx hb dX8_append_10 (by decide) ?_
        refine lv_iand hx hb dX8_append_13 ?_
        refine lv_topi (fun x_53 ex_53 => ?_)
        refine lv_istore_n hx hb dX8_append_14 rfl hl (by decide) (kTo [(3, .int x_53), (2, .int 0), (0, .ref jT), (1, .int p0)]) (fun ls hl => ?_)
        refine lv_iload_n hx hb dX8_append_15 rfl (lv_at hl 0 rfl) ?_
        have hy_54 : kS p0 0 = x_53 := by rw [ex_53, ex_52]; exact (kSu0 p0).symm
        refine lv_if_eq (tgt := 52) hx hb dX8_append_16 (by decide) (fun c_55 => ?_) (fun c_55 => ?_)
        · refine lv_iinc (v := (-8)) hx hb dX8_append_52 hl (k := 1) rfl (by decide) (by decide) (kTo [(2, .int (-8)), (3, .int x_53), (0, .ref jT), (1, .int p0)]) (fun ls hl => ?_)
          refine lv_goto (tgt := 3) hx hb dX8_append_55 (by decide) ?_
          refine lv_iload_n hx hb dX8_append_3 rfl (lv_at hl 0 rfl) ?_
          refine lv_if_lt (tgt := 58) hx hb dX8_append_4 (by decide) (fun c_56 => ?_) (fun c_56 => absurd (by decide) c_56)
          have hk8 : kCnt p0 = 1 := by simp [kCnt, kC1, hy_4, hy_9, hy_49, hy_54, c_5, c_10, c_50, c_55]
          have hP9 := hP
          have hD9 := hD
          have hK9 := hK
          rw [hQ]
          exact W.vret hx hb hr (fun t ht hW => ⟨⟨(f_44, (kt + 1), (kUpN bt kt (kSn p0 16))), rfl, ⟨by unfold kPut; rw [kP1_z (k := 24) (hy_4.trans c_5), kP1_n (k := 16) (fun z => c_10 (hy_9.symm.trans z)), kP1_z (k := 8) (hy_49.trans c_50), kP1_z (k := 0) (hy_54.trans c_55)], (kUpB (by omega) ef_44 ex_43 hy_9 hbt), (kUp8 hb8), by omega⟩,  by rw [ht]; exact hP9, va_K.moved hW.alike hK9, hD9⟩, hS.F ht⟩) hS.2.2 dX8_append_58
        · refine lv_aload_n hx hb dX8_append_19 rfl (lv_at hl 2 rfl) ?_
          refine va_get (D := (dC, dI)) (ci := 8) (v := .int (nI (kt + 1))) (C := RX8) (T := TX8) (N := 2) hx hb hts (fun _ h => List.mem_cons_of_mem _ (List.mem_append_right _ h)) hown hK hP 0 rfl rfl 1 (by decide) (hts (.fieldLink RX8 15 "NotEnded$Tape" "length" "I") (List.mem_cons_of_mem _ (List.mem_append_left _ (List.mem_of_getElem? (i := 0) rfl)))) (fun _ h9 => h9) rfl dX8_append_20 ?_
          refine lv_aload_n hx hb dX8_append_23 rfl (lv_at hl 2 rfl) ?_
          refine va_get (D := (dC, dI)) (ci := 8) (v := .ref t0) (C := RX8) (T := TX8) (N := 2) hx hb hts (fun _ h => List.mem_cons_of_mem _ (List.mem_append_right _ h)) hown hK hP 0 rfl rfl 0 (by decide) (hts (.fieldLink RX8 9 "NotEnded$Tape" "signs" "[C") (List.mem_cons_of_mem _ (List.mem_append_left _ (List.mem_of_getElem? (i := 1) rfl)))) (fun _ h9 => h9) rfl dX8_append_24 ?_
          refine va_alen hx hb hK hP 1 0 rfl rfl (v := 120) rfl dX8_append_27 ?_
          have hy_54_c : kC1 p0 0 = 1 := by simp [kC1, hy_54, c_55]
          refine lv_icmp_ge (tgt := 52) hx hb dX8_append_28 (by decide) (fun c_57 => absurd c_57 (nI_ge (a := kt + 1) (b := 120) (by omega) (by decide))) (fun c_57 => ?_)
          refine lv_aload_n hx hb dX8_append_31 rfl (lv_at hl 2 rfl) ?_
          refine va_get (D := (dC, dI)) (ci := 8) (v := .ref t0) (C := RX8) (T := TX8) (N := 2) hx hb hts (fun _ h => List.mem_cons_of_mem _ (List.mem_append_right _ h)) hown hK hP 0 rfl rfl 0 (by decide) (hts (.fieldLink RX8 9 "NotEnded$Tape" "signs" "[C") (List.mem_cons_of_mem _ (List.mem_append_left _ (List.mem_of_getElem? (i := 1) rfl)))) (fun _ h9 => h9) rfl dX8_append_32 ?_
          refine lv_aload_n hx hb dX8_append_35 rfl (lv_at hl 2 rfl) ?_
          refine va_get (D := (dC, dI)) (ci := 8) (v := .int (nI (kt + 1))) (C := RX8) (T := TX8) (N := 2) hx hb hts (fun _ h => List.mem_cons_of_mem _ (List.mem_append_right _ h)) hown hK hP 0 rfl rfl 1 (by decide) (hts (.fieldLink RX8 15 "NotEnded$Tape" "length" "I") (List.mem_cons_of_mem _ (List.mem_append_left _ (List.mem_of_getElem? (i := 0) rfl)))) (fun _ h9 => h9) rfl dX8_append_36 ?_
          refine lv_iload_n hx hb dX8_append_39 rfl (lv_at hl 0 rfl) ?_
          obtain ⟨x_58, ex_58⟩ : ∃ z : Int32, z = (Int32.toUInt32 x_53 % 65536).toInt32 := ⟨_, rfl⟩
          refine lv_i2c (v := x_58) hx hb dX8_append_40 ex_58.symm ?_
          refine va_cast hx hb hK hP hD hS 1 0 rfl rfl (vp_in_nI (n := kt + 1) (N := 120) (by omega) (by omega)) dX8_append_41 (fun H locs hP hD hS => ?_)
          obtain ⟨f_59, ef_59⟩ : ∃ gg9 : Nat → Int32, gg9 = upd f_44 (Int32.toNatClampNeg (nI (kt + 1))) (vp_nar .char x_58) := ⟨_, rfl⟩
          obtain ⟨hP, hD⟩ : kPD dC dI A [(jT, .inr (8, [.ref t0, .int (nI (kt + 1))])), (t0, .inl (cC, 120, .inl f_59))] H := by rw [ef_59]; exact ⟨hP, hD⟩
          refine lv_aload_n hx hb dX8_append_42 rfl (lv_at hl 2 rfl) ?_
          refine lv_dup hx hb dX8_append_43 rfl ?_
          refine va_get (D := (dC, dI)) (ci := 8) (v := .int (nI (kt + 1))) (C := RX8) (T := TX8) (N := 2) hx hb hts (fun _ h => List.mem_cons_of_mem _ (List.mem_append_right _ h)) hown hK hP 0 rfl rfl 1 (by decide) (hts (.fieldLink RX8 15 "NotEnded$Tape" "length" "I") (List.mem_cons_of_mem _ (List.mem_append_left _ (List.mem_of_getElem? (i := 0) rfl)))) (fun _ h9 => h9) rfl dX8_append_44 ?_
          refine lv_iconst (v := 1) hx hb dX8_append_47 (by decide) ?_
          refine lv_iadd hx hb dX8_append_48 ?_
          refine lv_topi (fun y_60 ey_60 => ?_)
          obtain rfl : y_60 = nI (kt + 1 + 1) := ey_60.trans (nI_add (kt + 1) (1))
          refine va_put (D := (dC, dI)) (ci := 8) (v := .int (nI (kt + 1 + 1))) (ty := tyX8 1) (C := RX8) (T := TX8) (N := 2) hx hb hts (fun _ h => List.mem_cons_of_mem _ (List.mem_append_right _ h)) tyX8 tyX8_ok nmX8 hown hK hP hD hS 0 rfl rfl 1 (by decide) (hts (.fieldLink RX8 15 "NotEnded$Tape" "length" "I") (List.mem_cons_of_mem _ (List.mem_append_left _ (List.mem_of_getElem? (i := 0) rfl)))) (fun _ h9 => h9) rfl (tyX8_ok 1 (by decide)) rfl rfl (Nat.le_of_ble_eq_true rfl) dX8_append_49 (fun H locs hP hD hS => ?_)
          obtain ⟨hP, hD⟩ : kPD dC dI A [(jT, .inr (8, [.ref t0, .int (nI (kt + 1 + 1))])), (t0, .inl (cC, 120, .inl f_59))] H := ⟨hP, hD⟩
          refine lv_iinc (v := (-8)) hx hb dX8_append_52 hl (k := 1) rfl (by decide) (by decide) (kTo [(2, .int (-8)), (3, .int x_53), (0, .ref jT), (1, .int p0)]) (fun ls hl => ?_)
          refine lv_goto (tgt := 3) hx hb dX8_append_55 (by decide) ?_
          refine lv_iload_n hx hb dX8_append_3 rfl (lv_at hl 0 rfl) ?_
          refine lv_if_lt (tgt := 58) hx hb dX8_append_4 (by decide) (fun c_61 => ?_) (fun c_61 => absurd (by decide) c_61)
          have hk8 : kCnt p0 = 2 := by simp [kCnt, kC1, hy_4, hy_9, hy_49, hy_54, c_5, c_10, c_50, c_55]
          have hP9 := hP
          have hD9 := hD
          have hK9 := hK
          rw [hQ]
          exact W.vret hx hb hr (fun t ht hW => ⟨⟨(f_59, (kt + 1 + 1), (kUpN (kUpN bt kt (kSn p0 16)) (kt + 1) (kSn p0 0))), rfl, ⟨by unfold kPut; rw [kP1_z (k := 24) (hy_4.trans c_5), kP1_n (k := 16) (fun z => c_10 (hy_9.symm.trans z)), kP1_z (k := 8) (hy_49.trans c_50), kP1_n (k := 0) (fun z => c_55 (hy_54.symm.trans z))], (kUpB (by omega) ef_59 ex_58 hy_54 (kUpB (by omega) ef_44 ex_43 hy_9 hbt)), (kUp8 (kUp8 hb8)), by omega⟩,  by rw [ht]; exact hP9, va_K.moved hW.alike hK9, hD9⟩, hS.F ht⟩) hS.2.2 dX8_append_58
      · refine lv_aload_n hx hb dX8_append_19 rfl (lv_at hl 2 rfl) ?_
        refine va_get (D := (dC, dI)) (ci := 8) (v := .int (nI (kt + 1))) (C := RX8) (T := TX8) (N := 2) hx hb hts (fun _ h => List.mem_cons_of_mem _ (List.mem_append_right _ h)) hown hK hP 0 rfl rfl 1 (by decide) (hts (.fieldLink RX8 15 "NotEnded$Tape" "length" "I") (List.mem_cons_of_mem _ (List.mem_append_left _ (List.mem_of_getElem? (i := 0) rfl)))) (fun _ h9 => h9) rfl dX8_append_20 ?_
        refine lv_aload_n hx hb dX8_append_23 rfl (lv_at hl 2 rfl) ?_
        refine va_get (D := (dC, dI)) (ci := 8) (v := .ref t0) (C := RX8) (T := TX8) (N := 2) hx hb hts (fun _ h => List.mem_cons_of_mem _ (List.mem_append_right _ h)) hown hK hP 0 rfl rfl 0 (by decide) (hts (.fieldLink RX8 9 "NotEnded$Tape" "signs" "[C") (List.mem_cons_of_mem _ (List.mem_append_left _ (List.mem_of_getElem? (i := 1) rfl)))) (fun _ h9 => h9) rfl dX8_append_24 ?_
        refine va_alen hx hb hK hP 1 0 rfl rfl (v := 120) rfl dX8_append_27 ?_
        have hy_49_c : kC1 p0 8 = 1 := by simp [kC1, hy_49, c_50]
        refine lv_icmp_ge (tgt := 52) hx hb dX8_append_28 (by decide) (fun c_62 => absurd c_62 (nI_ge (a := kt + 1) (b := 120) (by omega) (by decide))) (fun c_62 => ?_)
        refine lv_aload_n hx hb dX8_append_31 rfl (lv_at hl 2 rfl) ?_
        refine va_get (D := (dC, dI)) (ci := 8) (v := .ref t0) (C := RX8) (T := TX8) (N := 2) hx hb hts (fun _ h => List.mem_cons_of_mem _ (List.mem_append_right _ h)) hown hK hP 0 rfl rfl 0 (by decide) (hts (.fieldLink RX8 9 "NotEnded$Tape" "signs" "[C") (List.mem_cons_of_mem _ (List.mem_append_left _ (List.mem_of_getElem? (i := 1) rfl)))) (fun _ h9 => h9) rfl dX8_append_32 ?_
        refine lv_aload_n hx hb dX8_append_35 rfl (lv_at hl 2 rfl) ?_
        refine va_get (D := (dC, dI)) (ci := 8) (v := .int (nI (kt + 1))) (C := RX8) (T := TX8) (N := 2) hx hb hts (fun _ h => List.mem_cons_of_mem _ (List.mem_append_right _ h)) hown hK hP 0 rfl rfl 1 (by decide) (hts (.fieldLink RX8 15 "NotEnded$Tape" "length" "I") (List.mem_cons_of_mem _ (List.mem_append_left _ (List.mem_of_getElem? (i := 0) rfl)))) (fun _ h9 => h9) rfl dX8_append_36 ?_
        refine lv_iload_n hx hb dX8_append_39 rfl (lv_at hl 0 rfl) ?_
        obtain ⟨x_63, ex_63⟩ : ∃ z : Int32, z = (Int32.toUInt32 x_48 % 65536).toInt32 := ⟨_, rfl⟩
        refine lv_i2c (v := x_63) hx hb dX8_append_40 ex_63.symm ?_
        refine va_cast hx hb hK hP hD hS 1 0 rfl rfl (vp_in_nI (n := kt + 1) (N := 120) (by omega) (by omega)) dX8_append_41 (fun H locs hP hD hS => ?_)
        obtain ⟨f_64, ef_64⟩ : ∃ gg9 : Nat → Int32, gg9 = upd f_44 (Int32.toNatClampNeg (nI (kt + 1))) (vp_nar .char x_63) := ⟨_, rfl⟩
        obtain ⟨hP, hD⟩ : kPD dC dI A [(jT, .inr (8, [.ref t0, .int (nI (kt + 1))])), (t0, .inl (cC, 120, .inl f_64))] H := by rw [ef_64]; exact ⟨hP, hD⟩
        refine lv_aload_n hx hb dX8_append_42 rfl (lv_at hl 2 rfl) ?_
        refine lv_dup hx hb dX8_append_43 rfl ?_
        refine va_get (D := (dC, dI)) (ci := 8) (v := .int (nI (kt + 1))) (C := RX8) (T := TX8) (N := 2) hx hb hts (fun _ h => List.mem_cons_of_mem _ (List.mem_append_right _ h)) hown hK hP 0 rfl rfl 1 (by decide) (hts (.fieldLink RX8 15 "NotEnded$Tape" "length" "I") (List.mem_cons_of_mem _ (List.mem_append_left _ (List.mem_of_getElem? (i := 0) rfl)))) (fun _ h9 => h9) rfl dX8_append_44 ?_
        refine lv_iconst (v := 1) hx hb dX8_append_47 (by decide) ?_
        refine lv_iadd hx hb dX8_append_48 ?_
        refine lv_topi (fun y_65 ey_65 => ?_)
        obtain rfl : y_65 = nI (kt + 1 + 1) := ey_65.trans (nI_add (kt + 1) (1))
        refine va_put (D := (dC, dI)) (ci := 8) (v := .int (nI (kt + 1 + 1))) (ty := tyX8 1) (C := RX8) (T := TX8) (N := 2) hx hb hts (fun _ h => List.mem_cons_of_mem _ (List.mem_append_right _ h)) tyX8 tyX8_ok nmX8 hown hK hP hD hS 0 rfl rfl 1 (by decide) (hts (.fieldLink RX8 15 "NotEnded$Tape" "length" "I") (List.mem_cons_of_mem _ (List.mem_append_left _ (List.mem_of_getElem? (i := 0) rfl)))) (fun _ h9 => h9) rfl (tyX8_ok 1 (by decide)) rfl rfl (Nat.le_of_ble_eq_true rfl) dX8_append_49 (fun H locs hP hD hS => ?_)
        obtain ⟨hP, hD⟩ : kPD dC dI A [(jT, .inr (8, [.ref t0, .int (nI (kt + 1 + 1))])), (t0, .inl (cC, 120, .inl f_64))] H := ⟨hP, hD⟩
        refine lv_iinc (v := 0) hx hb dX8_append_52 hl (k := 1) rfl (by decide) (by decide) (kTo [(2, .int 0), (3, .int x_48), (0, .ref jT), (1, .int p0)]) (fun ls hl => ?_)
        refine lv_goto (tgt := 3) hx hb dX8_append_55 (by decide) ?_
        refine lv_iload_n hx hb dX8_append_3 rfl (lv_at hl 0 rfl) ?_
        refine lv_if_lt (tgt := 58) hx hb dX8_append_4 (by decide) (fun c_66 => absurd c_66 (by decide)) (fun c_66 => ?_)
        refine lv_iload_n hx hb dX8_append_7 rfl (lv_at hl 3 rfl) ?_
        refine lv_iload_n hx hb dX8_append_8 rfl (lv_at hl 0 rfl) ?_
        obtain ⟨x_67, ex_67⟩ : ∃ z : Int32, z = (Int32.toUInt32 p0 >>> (Int32.toUInt32 0 &&& Int32.toUInt32 31)).toInt32 := ⟨_, rfl⟩
        refine lv_iushr (v := x_67) hx hb dX8_append_9 ex_67.symm ?_
        refine lv_sipush (v := 255) hx hb dX8_append_10 (by decide) ?_
        refine lv_iand hx hb dX8_append_13 ?_
        refine lv_topi (fun x_68 ex_68 => ?_)
        refine lv_istore_n hx hb dX8_append_14 rfl hl (by decide) (kTo [(3, .int x_68), (2, .int 0), (0, .ref jT), (1, .int p0)]) (fun ls hl => ?_)
        refine lv_iload_n hx hb dX8_append_15 rfl (lv_at hl 0 rfl) ?_
        have hy_69 : kS p0 0 = x_68 := by rw [ex_68, ex_67]; exact (kSu0 p0).symm
        refine lv_if_eq (tgt := 52) hx hb dX8_append_16 (by decide) (fun c_70 => ?_) (fun c_70 => ?_)
        · refine lv_iinc (v := (-8)) hx hb dX8_append_52 hl (k := 1) rfl (by decide) (by decide) (kTo [(2, .int (-8)), (3, .int x_68), (0, .ref jT), (1, .int p0)]) (fun ls hl => ?_)
          refine lv_goto (tgt := 3) hx hb dX8_append_55 (by decide) ?_
          refine lv_iload_n hx hb dX8_append_3 rfl (lv_at hl 0 rfl) ?_
          refine lv_if_lt (tgt := 58) hx hb dX8_append_4 (by decide) (fun c_71 => ?_) (fun c_71 => absurd (by decide) c_71)
          have hk8 : kCnt p0 = 2 := by simp [kCnt, kC1, hy_4, hy_9, hy_49, hy_69, c_5, c_10, c_50, c_70]
          have hP9 := hP
          have hD9 := hD
          have hK9 := hK
          rw [hQ]
          exact W.vret hx hb hr (fun t ht hW => ⟨⟨(f_64, (kt + 1 + 1), (kUpN (kUpN bt kt (kSn p0 16)) (kt + 1) (kSn p0 8))), rfl, ⟨by unfold kPut; rw [kP1_z (k := 24) (hy_4.trans c_5), kP1_n (k := 16) (fun z => c_10 (hy_9.symm.trans z)), kP1_n (k := 8) (fun z => c_50 (hy_49.symm.trans z)), kP1_z (k := 0) (hy_69.trans c_70)], (kUpB (by omega) ef_64 ex_63 hy_49 (kUpB (by omega) ef_44 ex_43 hy_9 hbt)), (kUp8 (kUp8 hb8)), by omega⟩,  by rw [ht]; exact hP9, va_K.moved hW.alike hK9, hD9⟩, hS.F ht⟩) hS.2.2 dX8_append_58
        · refine lv_aload_n hx hb dX8_append_19 rfl (lv_at hl 2 rfl) ?_
          refine va_get (D := (dC, dI)) (ci := 8) (v := .int (nI (kt + 1 + 1))) (C := RX8) (T := TX8) (N := 2) hx hb hts (fun _ h => List.mem_cons_of_mem _ (List.mem_append_right _ h)) hown hK hP 0 rfl rfl 1 (by decide) (hts (.fieldLink RX8 15 "NotEnded$Tape" "length" "I") (List.mem_cons_of_mem _ (List.mem_append_left _ (List.mem_of_getElem? (i := 0) rfl)))) (fun _ h9 => h9) rfl dX8_append_20 ?_
          refine lv_aload_n hx hb dX8_append_23 rfl (lv_at hl 2 rfl) ?_
          refine va_get (D := (dC, dI)) (ci := 8) (v := .ref t0) (C := RX8) (T := TX8) (N := 2) hx hb hts (fun _ h => List.mem_cons_of_mem _ (List.mem_append_right _ h)) hown hK hP 0 rfl rfl 0 (by decide) (hts (.fieldLink RX8 9 "NotEnded$Tape" "signs" "[C") (List.mem_cons_of_mem _ (List.mem_append_left _ (List.mem_of_getElem? (i := 1) rfl)))) (fun _ h9 => h9) rfl dX8_append_24 ?_
          refine va_alen hx hb hK hP 1 0 rfl rfl (v := 120) rfl dX8_append_27 ?_
          have hy_69_c : kC1 p0 0 = 1 := by simp [kC1, hy_69, c_70]
          refine lv_icmp_ge (tgt := 52) hx hb dX8_append_28 (by decide) (fun c_72 => absurd c_72 (nI_ge (a := kt + 1 + 1) (b := 120) (by omega) (by decide))) (fun c_72 => ?_)
          refine lv_aload_n hx hb dX8_append_31 rfl (lv_at hl 2 rfl) ?_
          refine va_get (D := (dC, dI)) (ci := 8) (v := .ref t0) (C := RX8) (T := TX8) (N := 2) hx hb hts (fun _ h => List.mem_cons_of_mem _ (List.mem_append_right _ h)) hown hK hP 0 rfl rfl 0 (by decide) (hts (.fieldLink RX8 9 "NotEnded$Tape" "signs" "[C") (List.mem_cons_of_mem _ (List.mem_append_left _ (List.mem_of_getElem? (i := 1) rfl)))) (fun _ h9 => h9) rfl dX8_append_32 ?_
          refine lv_aload_n hx hb dX8_append_35 rfl (lv_at hl 2 rfl) ?_
          refine va_get (D := (dC, dI)) (ci := 8) (v := .int (nI (kt + 1 + 1))) (C := RX8) (T := TX8) (N := 2) hx hb hts (fun _ h => List.mem_cons_of_mem _ (List.mem_append_right _ h)) hown hK hP 0 rfl rfl 1 (by decide) (hts (.fieldLink RX8 15 "NotEnded$Tape" "length" "I") (List.mem_cons_of_mem _ (List.mem_append_left _ (List.mem_of_getElem? (i := 0) rfl)))) (fun _ h9 => h9) rfl dX8_append_36 ?_
          refine lv_iload_n hx hb dX8_append_39 rfl (lv_at hl 0 rfl) ?_
          obtain ⟨x_73, ex_73⟩ : ∃ z : Int32, z = (Int32.toUInt32 x_68 % 65536).toInt32 := ⟨_, rfl⟩
          refine lv_i2c (v := x_73) hx hb dX8_append_40 ex_73.symm ?_
          refine va_cast hx hb hK hP hD hS 1 0 rfl rfl (vp_in_nI (n := kt + 1 + 1) (N := 120) (by omega) (by omega)) dX8_append_41 (fun H locs hP hD hS => ?_)
          obtain ⟨f_74, ef_74⟩ : ∃ gg9 : Nat → Int32, gg9 = upd f_64 (Int32.toNatClampNeg (nI (kt + 1 + 1))) (vp_nar .char x_73) := ⟨_, rfl⟩
          obtain ⟨hP, hD⟩ : kPD dC dI A [(jT, .inr (8, [.ref t0, .int (nI (kt + 1 + 1))])), (t0, .inl (cC, 120, .inl f_74))] H := by rw [ef_74]; exact ⟨hP, hD⟩
          refine lv_aload_n hx hb dX8_append_42 rfl (lv_at hl 2 rfl) ?_
          refine lv_dup hx hb dX8_append_43 rfl ?_
          refine va_get (D := (dC, dI)) (ci := 8) (v := .int (nI (kt + 1 + 1))) (C := RX8) (T := TX8) (N := 2) hx hb hts (fun _ h => List.mem_cons_of_mem _ (List.mem_append_right _ h)) hown hK hP 0 rfl rfl 1 (by decide) (hts (.fieldLink RX8 15 "NotEnded$Tape" "length" "I") (List.mem_cons_of_mem _ (List.mem_append_left _ (List.mem_of_getElem? (i := 0) rfl)))) (fun _ h9 => h9) rfl dX8_append_44 ?_
          refine lv_iconst (v := 1) hx hb dX8_append_47 (by decide) ?_
          refine lv_iadd hx hb dX8_append_48 ?_
          refine lv_topi (fun y_75 ey_75 => ?_)
          obtain rfl : y_75 = nI (kt + 1 + 1 + 1) := ey_75.trans (nI_add (kt + 1 + 1) (1))
          refine va_put (D := (dC, dI)) (ci := 8) (v := .int (nI (kt + 1 + 1 + 1))) (ty := tyX8 1) (C := RX8) (T := TX8) (N := 2) hx hb hts (fun _ h => List.mem_cons_of_mem _ (List.mem_append_right _ h)) tyX8 tyX8_ok nmX8 hown hK hP hD hS 0 rfl rfl 1 (by decide) (hts (.fieldLink RX8 15 "NotEnded$Tape" "length" "I") (List.mem_cons_of_mem _ (List.mem_append_left _ (List.mem_of_getElem? (i := 0) rfl)))) (fun _ h9 => h9) rfl (tyX8_ok 1 (by decide)) rfl rfl (Nat.le_of_ble_eq_true rfl) dX8_append_49 (fun H locs hP hD hS => ?_)
          obtain ⟨hP, hD⟩ : kPD dC dI A [(jT, .inr (8, [.ref t0, .int (nI (kt + 1 + 1 + 1))])), (t0, .inl (cC, 120, .inl f_74))] H := ⟨hP, hD⟩
          refine lv_iinc (v := (-8)) hx hb dX8_append_52 hl (k := 1) rfl (by decide) (by decide) (kTo [(2, .int (-8)), (3, .int x_68), (0, .ref jT), (1, .int p0)]) (fun ls hl => ?_)
          refine lv_goto (tgt := 3) hx hb dX8_append_55 (by decide) ?_
          refine lv_iload_n hx hb dX8_append_3 rfl (lv_at hl 0 rfl) ?_
          refine lv_if_lt (tgt := 58) hx hb dX8_append_4 (by decide) (fun c_76 => ?_) (fun c_76 => absurd (by decide) c_76)
          have hk8 : kCnt p0 = 3 := by simp [kCnt, kC1, hy_4, hy_9, hy_49, hy_69, c_5, c_10, c_50, c_70]
          have hP9 := hP
          have hD9 := hD
          have hK9 := hK
          rw [hQ]
          exact W.vret hx hb hr (fun t ht hW => ⟨⟨(f_74, (kt + 1 + 1 + 1), (kUpN (kUpN (kUpN bt kt (kSn p0 16)) (kt + 1) (kSn p0 8)) (kt + 1 + 1) (kSn p0 0))), rfl, ⟨by unfold kPut; rw [kP1_z (k := 24) (hy_4.trans c_5), kP1_n (k := 16) (fun z => c_10 (hy_9.symm.trans z)), kP1_n (k := 8) (fun z => c_50 (hy_49.symm.trans z)), kP1_n (k := 0) (fun z => c_70 (hy_69.symm.trans z))], (kUpB (by omega) ef_74 ex_73 hy_69 (kUpB (by omega) ef_64 ex_63 hy_49 (kUpB (by omega) ef_44 ex_43 hy_9 hbt))), (kUp8 (kUp8 (kUp8 hb8))), by omega⟩,  by rw [ht]; exact hP9, va_K.moved hW.alike hK9, hD9⟩, hS.F ht⟩) hS.2.2 dX8_append_58
  · refine lv_aload_n hx hb dX8_append_19 rfl (lv_at hl 2 rfl) ?_
    refine va_get (D := (dC, dI)) (ci := 8) (v := .int (nI (kt))) (C := RX8) (T := TX8) (N := 2) hx hb hts (fun _ h => List.mem_cons_of_mem _ (List.mem_append_right _ h)) hown hK hP 0 rfl rfl 1 (by decide) (hts (.fieldLink RX8 15 "NotEnded$Tape" "length" "I") (List.mem_cons_of_mem _ (List.mem_append_left _ (List.mem_of_getElem? (i := 0) rfl)))) (fun _ h9 => h9) rfl dX8_append_20 ?_
    refine lv_aload_n hx hb dX8_append_23 rfl (lv_at hl 2 rfl) ?_
    refine va_get (D := (dC, dI)) (ci := 8) (v := .ref t0) (C := RX8) (T := TX8) (N := 2) hx hb hts (fun _ h => List.mem_cons_of_mem _ (List.mem_append_right _ h)) hown hK hP 0 rfl rfl 0 (by decide) (hts (.fieldLink RX8 9 "NotEnded$Tape" "signs" "[C") (List.mem_cons_of_mem _ (List.mem_append_left _ (List.mem_of_getElem? (i := 1) rfl)))) (fun _ h9 => h9) rfl dX8_append_24 ?_
    refine va_alen hx hb hK hP 1 0 rfl rfl (v := 120) rfl dX8_append_27 ?_
    have hy_4_c : kC1 p0 24 = 1 := by simp [kC1, hy_4, c_5]
    refine lv_icmp_ge (tgt := 52) hx hb dX8_append_28 (by decide) (fun c_77 => absurd c_77 (nI_ge (a := kt) (b := 120) (by omega) (by decide))) (fun c_77 => ?_)
    refine lv_aload_n hx hb dX8_append_31 rfl (lv_at hl 2 rfl) ?_
    refine va_get (D := (dC, dI)) (ci := 8) (v := .ref t0) (C := RX8) (T := TX8) (N := 2) hx hb hts (fun _ h => List.mem_cons_of_mem _ (List.mem_append_right _ h)) hown hK hP 0 rfl rfl 0 (by decide) (hts (.fieldLink RX8 9 "NotEnded$Tape" "signs" "[C") (List.mem_cons_of_mem _ (List.mem_append_left _ (List.mem_of_getElem? (i := 1) rfl)))) (fun _ h9 => h9) rfl dX8_append_32 ?_
    refine lv_aload_n hx hb dX8_append_35 rfl (lv_at hl 2 rfl) ?_
    refine va_get (D := (dC, dI)) (ci := 8) (v := .int (nI (kt))) (C := RX8) (T := TX8) (N := 2) hx hb hts (fun _ h => List.mem_cons_of_mem _ (List.mem_append_right _ h)) hown hK hP 0 rfl rfl 1 (by decide) (hts (.fieldLink RX8 15 "NotEnded$Tape" "length" "I") (List.mem_cons_of_mem _ (List.mem_append_left _ (List.mem_of_getElem? (i := 0) rfl)))) (fun _ h9 => h9) rfl dX8_append_36 ?_
    refine lv_iload_n hx hb dX8_append_39 rfl (lv_at hl 0 rfl) ?_
    obtain ⟨x_78, ex_78⟩ : ∃ z : Int32, z = (Int32.toUInt32 x_3 % 65536).toInt32 := ⟨_, rfl⟩
    refine lv_i2c (v := x_78) hx hb dX8_append_40 ex_78.symm ?_
    refine va_cast hx hb hK hP hD hS 1 0 rfl rfl (vp_in_nI (n := kt) (N := 120) (by omega) (by omega)) dX8_append_41 (fun H locs hP hD hS => ?_)
    obtain ⟨f_79, ef_79⟩ : ∃ gg9 : Nat → Int32, gg9 = upd gT (Int32.toNatClampNeg (nI (kt))) (vp_nar .char x_78) := ⟨_, rfl⟩
    obtain ⟨hP, hD⟩ : kPD dC dI A [(jT, .inr (8, [.ref t0, .int (nI (kt))])), (t0, .inl (cC, 120, .inl f_79))] H := by rw [ef_79]; exact ⟨hP, hD⟩
    refine lv_aload_n hx hb dX8_append_42 rfl (lv_at hl 2 rfl) ?_
    refine lv_dup hx hb dX8_append_43 rfl ?_
    refine va_get (D := (dC, dI)) (ci := 8) (v := .int (nI (kt))) (C := RX8) (T := TX8) (N := 2) hx hb hts (fun _ h => List.mem_cons_of_mem _ (List.mem_append_right _ h)) hown hK hP 0 rfl rfl 1 (by decide) (hts (.fieldLink RX8 15 "NotEnded$Tape" "length" "I") (List.mem_cons_of_mem _ (List.mem_append_left _ (List.mem_of_getElem? (i := 0) rfl)))) (fun _ h9 => h9) rfl dX8_append_44 ?_
    refine lv_iconst (v := 1) hx hb dX8_append_47 (by decide) ?_
    refine lv_iadd hx hb dX8_append_48 ?_
    refine lv_topi (fun y_80 ey_80 => ?_)
    obtain rfl : y_80 = nI (kt + 1) := ey_80.trans (nI_add (kt) (1))
    refine va_put (D := (dC, dI)) (ci := 8) (v := .int (nI (kt + 1))) (ty := tyX8 1) (C := RX8) (T := TX8) (N := 2) hx hb hts (fun _ h => List.mem_cons_of_mem _ (List.mem_append_right _ h)) tyX8 tyX8_ok nmX8 hown hK hP hD hS 0 rfl rfl 1 (by decide) (hts (.fieldLink RX8 15 "NotEnded$Tape" "length" "I") (List.mem_cons_of_mem _ (List.mem_append_left _ (List.mem_of_getElem? (i := 0) rfl)))) (fun _ h9 => h9) rfl (tyX8_ok 1 (by decide)) rfl rfl (Nat.le_of_ble_eq_true rfl) dX8_append_49 (fun H locs hP hD hS => ?_)
    obtain ⟨hP, hD⟩ : kPD dC dI A [(jT, .inr (8, [.ref t0, .int (nI (kt + 1))])), (t0, .inl (cC, 120, .inl f_79))] H := ⟨hP, hD⟩
    refine lv_iinc (v := 16) hx hb dX8_append_52 hl (k := 1) rfl (by decide) (by decide) (kTo [(2, .int 16), (3, .int x_3), (0, .ref jT), (1, .int p0)]) (fun ls hl => ?_)
    refine lv_goto (tgt := 3) hx hb dX8_append_55 (by decide) ?_
    refine lv_iload_n hx hb dX8_append_3 rfl (lv_at hl 0 rfl) ?_
    refine lv_if_lt (tgt := 58) hx hb dX8_append_4 (by decide) (fun c_81 => absurd c_81 (by decide)) (fun c_81 => ?_)
    refine lv_iload_n hx hb dX8_append_7 rfl (lv_at hl 3 rfl) ?_
    refine lv_iload_n hx hb dX8_append_8 rfl (lv_at hl 0 rfl) ?_
    obtain ⟨x_82, ex_82⟩ : ∃ z : Int32, z = (Int32.toUInt32 p0 >>> (Int32.toUInt32 16 &&& Int32.toUInt32 31)).toInt32 := ⟨_, rfl⟩
    refine lv_iushr (v := x_82) hx hb dX8_append_9 ex_82.symm ?_
    refine lv_sipush (v := 255) hx hb dX8_append_10 (by decide) ?_
    refine lv_iand hx hb dX8_append_13 ?_
    refine lv_topi (fun x_83 ex_83 => ?_)
    refine lv_istore_n hx hb dX8_append_14 rfl hl (by decide) (kTo [(3, .int x_83), (2, .int 16), (0, .ref jT), (1, .int p0)]) (fun ls hl => ?_)
    refine lv_iload_n hx hb dX8_append_15 rfl (lv_at hl 0 rfl) ?_
    have hy_84 : kS p0 16 = x_83 := by rw [ex_83, ex_82]; exact (kSu16 p0).symm
    refine lv_if_eq (tgt := 52) hx hb dX8_append_16 (by decide) (fun c_85 => ?_) (fun c_85 => ?_)
    · refine lv_iinc (v := 8) hx hb dX8_append_52 hl (k := 1) rfl (by decide) (by decide) (kTo [(2, .int 8), (3, .int x_83), (0, .ref jT), (1, .int p0)]) (fun ls hl => ?_)
      refine lv_goto (tgt := 3) hx hb dX8_append_55 (by decide) ?_
      refine lv_iload_n hx hb dX8_append_3 rfl (lv_at hl 0 rfl) ?_
      refine lv_if_lt (tgt := 58) hx hb dX8_append_4 (by decide) (fun c_86 => absurd c_86 (by decide)) (fun c_86 => ?_)
      refine lv_iload_n hx hb dX8_append_7 rfl (lv_at hl 3 rfl) ?_
      refine lv_iload_n hx hb dX8_append_8 rfl (lv_at hl 0 rfl) ?_
      obtain ⟨x_87, ex_87⟩ : ∃ z : Int32, z = (Int32.toUInt32 p0 >>> (Int32.toUInt32 8 &&& Int32.toUInt32 31)).toInt32 := ⟨_, rfl⟩
      refine lv_iushr (v := x_87) hx hb dX8_append_9 ex_87.symm ?_
      refine lv_sipush (v := 255) hx hb dX8_append_10 (by decide) ?_
      refine lv_iand hx hb dX8_append_13 ?_
      refine lv_topi (fun x_88 ex_88 => ?_)
      refine lv_istore_n hx hb dX8_append_14 rfl hl (by decide) (kTo [(3, .int x_88), (2, .int 8), (0, .ref jT), (1, .int p0)]) (fun ls hl => ?_)
      refine lv_iload_n hx hb dX8_append_15 rfl (lv_at hl 0 rfl) ?_
      have hy_89 : kS p0 8 = x_88 := by rw [ex_88, ex_87]; exact (kSu8 p0).symm
      refine lv_if_eq (tgt := 52) hx hb dX8_append_16 (by decide) (fun c_90 => ?_) (fun c_90 => ?_)
      · refine lv_iinc (v := 0) hx hb dX8_append_52 hl (k := 1) rfl (by decide) (by decide) (kTo [(2, .int 0), (3, .int x_88), (0, .ref jT), (1, .int p0)]) (fun ls hl => ?_)
        refine lv_goto (tgt := 3) hx hb dX8_append_55 (by decide) ?_
        refine lv_iload_n hx hb dX8_append_3 rfl (lv_at hl 0 rfl) ?_
        refine lv_if_lt (tgt := 58) hx hb dX8_append_4 (by decide) (fun c_91 => absurd c_91 (by decide)) (fun c_91 => ?_)
        refine lv_iload_n hx hb dX8_append_7 rfl (lv_at hl 3 rfl) ?_
        refine lv_iload_n hx hb dX8_append_8 rfl (lv_at hl 0 rfl) ?_
        obtain ⟨x_92, ex_92⟩ : ∃ z : Int32, z = (Int32.toUInt32 p0 >>> (Int32.toUInt32 0 &&& Int32.toUInt32 31)).toInt32 := ⟨_, rfl⟩
        refine lv_iushr (v := x_92) hx hb dX8_append_9 ex_92.symm ?_
        refine lv_sipush (v := 255) hx hb dX8_append_10 (by decide) ?_
        refine lv_iand hx hb dX8_append_13 ?_
        refine lv_topi (fun x_93 ex_93 => ?_)
        refine lv_istore_n hx hb dX8_append_14 rfl hl (by decide) (kTo [(3, .int x_93), (2, .int 0), (0, .ref jT), (1, .int p0)]) (fun ls hl => ?_)
        refine lv_iload_n hx hb dX8_append_15 rfl (lv_at hl 0 rfl) ?_
        have hy_94 : kS p0 0 = x_93 := by rw [ex_93, ex_92]; exact (kSu0 p0).symm
        refine lv_if_eq (tgt := 52) hx hb dX8_append_16 (by decide) (fun c_95 => ?_) (fun c_95 => ?_)
        · refine lv_iinc (v := (-8)) hx hb dX8_append_52 hl (k := 1) rfl (by decide) (by decide) (kTo [(2, .int (-8)), (3, .int x_93), (0, .ref jT), (1, .int p0)]) (fun ls hl => ?_)
          refine lv_goto (tgt := 3) hx hb dX8_append_55 (by decide) ?_
          refine lv_iload_n hx hb dX8_append_3 rfl (lv_at hl 0 rfl) ?_
          refine lv_if_lt (tgt := 58) hx hb dX8_append_4 (by decide) (fun c_96 => ?_) (fun c_96 => absurd (by decide) c_96)
          have hk8 : kCnt p0 = 1 := by simp [kCnt, kC1, hy_4, hy_84, hy_89, hy_94, c_5, c_85, c_90, c_95]
          have hP9 := hP
          have hD9 := hD
          have hK9 := hK
          rw [hQ]
          exact W.vret hx hb hr (fun t ht hW => ⟨⟨(f_79, (kt + 1), (kUpN bt kt (kSn p0 24))), rfl, ⟨by unfold kPut; rw [kP1_n (k := 24) (fun z => c_5 (hy_4.symm.trans z)), kP1_z (k := 16) (hy_84.trans c_85), kP1_z (k := 8) (hy_89.trans c_90), kP1_z (k := 0) (hy_94.trans c_95)], (kUpB (by omega) ef_79 ex_78 hy_4 hbt), (kUp8 hb8), by omega⟩,  by rw [ht]; exact hP9, va_K.moved hW.alike hK9, hD9⟩, hS.F ht⟩) hS.2.2 dX8_append_58
        · refine lv_aload_n hx hb dX8_append_19 rfl (lv_at hl 2 rfl) ?_
          refine va_get (D := (dC, dI)) (ci := 8) (v := .int (nI (kt + 1))) (C := RX8) (T := TX8) (N := 2) hx hb hts (fun _ h => List.mem_cons_of_mem _ (List.mem_append_right _ h)) hown hK hP 0 rfl rfl 1 (by decide) (hts (.fieldLink RX8 15 "NotEnded$Tape" "length" "I") (List.mem_cons_of_mem _ (List.mem_append_left _ (List.mem_of_getElem? (i := 0) rfl)))) (fun _ h9 => h9) rfl dX8_append_20 ?_
          refine lv_aload_n hx hb dX8_append_23 rfl (lv_at hl 2 rfl) ?_
          refine va_get (D := (dC, dI)) (ci := 8) (v := .ref t0) (C := RX8) (T := TX8) (N := 2) hx hb hts (fun _ h => List.mem_cons_of_mem _ (List.mem_append_right _ h)) hown hK hP 0 rfl rfl 0 (by decide) (hts (.fieldLink RX8 9 "NotEnded$Tape" "signs" "[C") (List.mem_cons_of_mem _ (List.mem_append_left _ (List.mem_of_getElem? (i := 1) rfl)))) (fun _ h9 => h9) rfl dX8_append_24 ?_
          refine va_alen hx hb hK hP 1 0 rfl rfl (v := 120) rfl dX8_append_27 ?_
          have hy_94_c : kC1 p0 0 = 1 := by simp [kC1, hy_94, c_95]
          refine lv_icmp_ge (tgt := 52) hx hb dX8_append_28 (by decide) (fun c_97 => absurd c_97 (nI_ge (a := kt + 1) (b := 120) (by omega) (by decide))) (fun c_97 => ?_)
          refine lv_aload_n hx hb dX8_append_31 rfl (lv_at hl 2 rfl) ?_
          refine va_get (D := (dC, dI)) (ci := 8) (v := .ref t0) (C := RX8) (T := TX8) (N := 2) hx hb hts (fun _ h => List.mem_cons_of_mem _ (List.mem_append_right _ h)) hown hK hP 0 rfl rfl 0 (by decide) (hts (.fieldLink RX8 9 "NotEnded$Tape" "signs" "[C") (List.mem_cons_of_mem _ (List.mem_append_left _ (List.mem_of_getElem? (i := 1) rfl)))) (fun _ h9 => h9) rfl dX8_append_32 ?_
          refine lv_aload_n hx hb dX8_append_35 rfl (lv_at hl 2 rfl) ?_
          refine va_get (D := (dC, dI)) (ci := 8) (v := .int (nI (kt + 1))) (C := RX8) (T := TX8) (N := 2) hx hb hts (fun _ h => List.mem_cons_of_mem _ (List.mem_append_right _ h)) hown hK hP 0 rfl rfl 1 (by decide) (hts (.fieldLink RX8 15 "NotEnded$Tape" "length" "I") (List.mem_cons_of_mem _ (List.mem_append_left _ (List.mem_of_getElem? (i := 0) rfl)))) (fun _ h9 => h9) rfl dX8_append_36 ?_
          refine lv_iload_n hx hb dX8_append_39 rfl (lv_at hl 0 rfl) ?_
          obtain ⟨x_98, ex_98⟩ : ∃ z : Int32, z = (Int32.toUInt32 x_93 % 65536).toInt32 := ⟨_, rfl⟩
          refine lv_i2c (v := x_98) hx hb dX8_append_40 ex_98.symm ?_
          refine va_cast hx hb hK hP hD hS 1 0 rfl rfl (vp_in_nI (n := kt + 1) (N := 120) (by omega) (by omega)) dX8_append_41 (fun H locs hP hD hS => ?_)
          obtain ⟨f_99, ef_99⟩ : ∃ gg9 : Nat → Int32, gg9 = upd f_79 (Int32.toNatClampNeg (nI (kt + 1))) (vp_nar .char x_98) := ⟨_, rfl⟩
          obtain ⟨hP, hD⟩ : kPD dC dI A [(jT, .inr (8, [.ref t0, .int (nI (kt + 1))])), (t0, .inl (cC, 120, .inl f_99))] H := by rw [ef_99]; exact ⟨hP, hD⟩
          refine lv_aload_n hx hb dX8_append_42 rfl (lv_at hl 2 rfl) ?_
          refine lv_dup hx hb dX8_append_43 rfl ?_
          refine va_get (D := (dC, dI)) (ci := 8) (v := .int (nI (kt + 1))) (C := RX8) (T := TX8) (N := 2) hx hb hts (fun _ h => List.mem_cons_of_mem _ (List.mem_append_right _ h)) hown hK hP 0 rfl rfl 1 (by decide) (hts (.fieldLink RX8 15 "NotEnded$Tape" "length" "I") (List.mem_cons_of_mem _ (List.mem_append_left _ (List.mem_of_getElem? (i := 0) rfl)))) (fun _ h9 => h9) rfl dX8_append_44 ?_
          refine lv_iconst (v := 1) hx hb dX8_append_47 (by decide) ?_
          refine lv_iadd hx hb dX8_append_48 ?_
          refine lv_topi (fun y_100 ey_100 => ?_)
          obtain rfl : y_100 = nI (kt + 1 + 1) := ey_100.trans (nI_add (kt + 1) (1))
          refine va_put (D := (dC, dI)) (ci := 8) (v := .int (nI (kt + 1 + 1))) (ty := tyX8 1) (C := RX8) (T := TX8) (N := 2) hx hb hts (fun _ h => List.mem_cons_of_mem _ (List.mem_append_right _ h)) tyX8 tyX8_ok nmX8 hown hK hP hD hS 0 rfl rfl 1 (by decide) (hts (.fieldLink RX8 15 "NotEnded$Tape" "length" "I") (List.mem_cons_of_mem _ (List.mem_append_left _ (List.mem_of_getElem? (i := 0) rfl)))) (fun _ h9 => h9) rfl (tyX8_ok 1 (by decide)) rfl rfl (Nat.le_of_ble_eq_true rfl) dX8_append_49 (fun H locs hP hD hS => ?_)
          obtain ⟨hP, hD⟩ : kPD dC dI A [(jT, .inr (8, [.ref t0, .int (nI (kt + 1 + 1))])), (t0, .inl (cC, 120, .inl f_99))] H := ⟨hP, hD⟩
          refine lv_iinc (v := (-8)) hx hb dX8_append_52 hl (k := 1) rfl (by decide) (by decide) (kTo [(2, .int (-8)), (3, .int x_93), (0, .ref jT), (1, .int p0)]) (fun ls hl => ?_)
          refine lv_goto (tgt := 3) hx hb dX8_append_55 (by decide) ?_
          refine lv_iload_n hx hb dX8_append_3 rfl (lv_at hl 0 rfl) ?_
          refine lv_if_lt (tgt := 58) hx hb dX8_append_4 (by decide) (fun c_101 => ?_) (fun c_101 => absurd (by decide) c_101)
          have hk8 : kCnt p0 = 2 := by simp [kCnt, kC1, hy_4, hy_84, hy_89, hy_94, c_5, c_85, c_90, c_95]
          have hP9 := hP
          have hD9 := hD
          have hK9 := hK
          rw [hQ]
          exact W.vret hx hb hr (fun t ht hW => ⟨⟨(f_99, (kt + 1 + 1), (kUpN (kUpN bt kt (kSn p0 24)) (kt + 1) (kSn p0 0))), rfl, ⟨by unfold kPut; rw [kP1_n (k := 24) (fun z => c_5 (hy_4.symm.trans z)), kP1_z (k := 16) (hy_84.trans c_85), kP1_z (k := 8) (hy_89.trans c_90), kP1_n (k := 0) (fun z => c_95 (hy_94.symm.trans z))], (kUpB (by omega) ef_99 ex_98 hy_94 (kUpB (by omega) ef_79 ex_78 hy_4 hbt)), (kUp8 (kUp8 hb8)), by omega⟩,  by rw [ht]; exact hP9, va_K.moved hW.alike hK9, hD9⟩, hS.F ht⟩) hS.2.2 dX8_append_58
      · refine lv_aload_n hx hb dX8_append_19 rfl (lv_at hl 2 rfl) ?_
        refine va_get (D := (dC, dI)) (ci := 8) (v := .int (nI (kt + 1))) (C := RX8) (T := TX8) (N := 2) hx hb hts (fun _ h => List.mem_cons_of_mem _ (List.mem_append_right _ h)) hown hK hP 0 rfl rfl 1 (by decide) (hts (.fieldLink RX8 15 "NotEnded$Tape" "length" "I") (List.mem_cons_of_mem _ (List.mem_append_left _ (List.mem_of_getElem? (i := 0) rfl)))) (fun _ h9 => h9) rfl dX8_append_20 ?_
        refine lv_aload_n hx hb dX8_append_23 rfl (lv_at hl 2 rfl) ?_
        refine va_get (D := (dC, dI)) (ci := 8) (v := .ref t0) (C := RX8) (T := TX8) (N := 2) hx hb hts (fun _ h => List.mem_cons_of_mem _ (List.mem_append_right _ h)) hown hK hP 0 rfl rfl 0 (by decide) (hts (.fieldLink RX8 9 "NotEnded$Tape" "signs" "[C") (List.mem_cons_of_mem _ (List.mem_append_left _ (List.mem_of_getElem? (i := 1) rfl)))) (fun _ h9 => h9) rfl dX8_append_24 ?_
        refine va_alen hx hb hK hP 1 0 rfl rfl (v := 120) rfl dX8_append_27 ?_
        have hy_89_c : kC1 p0 8 = 1 := by simp [kC1, hy_89, c_90]
        refine lv_icmp_ge (tgt := 52) hx hb dX8_append_28 (by decide) (fun c_102 => absurd c_102 (nI_ge (a := kt + 1) (b := 120) (by omega) (by decide))) (fun c_102 => ?_)
        refine lv_aload_n hx hb dX8_append_31 rfl (lv_at hl 2 rfl) ?_
        refine va_get (D := (dC, dI)) (ci := 8) (v := .ref t0) (C := RX8) (T := TX8) (N := 2) hx hb hts (fun _ h => List.mem_cons_of_mem _ (List.mem_append_right _ h)) hown hK hP 0 rfl rfl 0 (by decide) (hts (.fieldLink RX8 9 "NotEnded$Tape" "signs" "[C") (List.mem_cons_of_mem _ (List.mem_append_left _ (List.mem_of_getElem? (i := 1) rfl)))) (fun _ h9 => h9) rfl dX8_append_32 ?_
        refine lv_aload_n hx hb dX8_append_35 rfl (lv_at hl 2 rfl) ?_
        refine va_get (D := (dC, dI)) (ci := 8) (v := .int (nI (kt + 1))) (C := RX8) (T := TX8) (N := 2) hx hb hts (fun _ h => List.mem_cons_of_mem _ (List.mem_append_right _ h)) hown hK hP 0 rfl rfl 1 (by decide) (hts (.fieldLink RX8 15 "NotEnded$Tape" "length" "I") (List.mem_cons_of_mem _ (List.mem_append_left _ (List.mem_of_getElem? (i := 0) rfl)))) (fun _ h9 => h9) rfl dX8_append_36 ?_
        refine lv_iload_n hx hb dX8_append_39 rfl (lv_at hl 0 rfl) ?_
        obtain ⟨x_103, ex_103⟩ : ∃ z : Int32, z = (Int32.toUInt32 x_88 % 65536).toInt32 := ⟨_, rfl⟩
        refine lv_i2c (v := x_103) hx hb dX8_append_40 ex_103.symm ?_
        refine va_cast hx hb hK hP hD hS 1 0 rfl rfl (vp_in_nI (n := kt + 1) (N := 120) (by omega) (by omega)) dX8_append_41 (fun H locs hP hD hS => ?_)
        obtain ⟨f_104, ef_104⟩ : ∃ gg9 : Nat → Int32, gg9 = upd f_79 (Int32.toNatClampNeg (nI (kt + 1))) (vp_nar .char x_103) := ⟨_, rfl⟩
        obtain ⟨hP, hD⟩ : kPD dC dI A [(jT, .inr (8, [.ref t0, .int (nI (kt + 1))])), (t0, .inl (cC, 120, .inl f_104))] H := by rw [ef_104]; exact ⟨hP, hD⟩
        refine lv_aload_n hx hb dX8_append_42 rfl (lv_at hl 2 rfl) ?_
        refine lv_dup hx hb dX8_append_43 rfl ?_
        refine va_get (D := (dC, dI)) (ci := 8) (v := .int (nI (kt + 1))) (C := RX8) (T := TX8) (N := 2) hx hb hts (fun _ h => List.mem_cons_of_mem _ (List.mem_append_right _ h)) hown hK hP 0 rfl rfl 1 (by decide) (hts (.fieldLink RX8 15 "NotEnded$Tape" "length" "I") (List.mem_cons_of_mem _ (List.mem_append_left _ (List.mem_of_getElem? (i := 0) rfl)))) (fun _ h9 => h9) rfl dX8_append_44 ?_
        refine lv_iconst (v := 1) hx hb dX8_append_47 (by decide) ?_
        refine lv_iadd hx hb dX8_append_48 ?_
        refine lv_topi (fun y_105 ey_105 => ?_)
        obtain rfl : y_105 = nI (kt + 1 + 1) := ey_105.trans (nI_add (kt + 1) (1))
        refine va_put (D := (dC, dI)) (ci := 8) (v := .int (nI (kt + 1 + 1))) (ty := tyX8 1) (C := RX8) (T := TX8) (N := 2) hx hb hts (fun _ h => List.mem_cons_of_mem _ (List.mem_append_right _ h)) tyX8 tyX8_ok nmX8 hown hK hP hD hS 0 rfl rfl 1 (by decide) (hts (.fieldLink RX8 15 "NotEnded$Tape" "length" "I") (List.mem_cons_of_mem _ (List.mem_append_left _ (List.mem_of_getElem? (i := 0) rfl)))) (fun _ h9 => h9) rfl (tyX8_ok 1 (by decide)) rfl rfl (Nat.le_of_ble_eq_true rfl) dX8_append_49 (fun H locs hP hD hS => ?_)
        obtain ⟨hP, hD⟩ : kPD dC dI A [(jT, .inr (8, [.ref t0, .int (nI (kt + 1 + 1))])), (t0, .inl (cC, 120, .inl f_104))] H := ⟨hP, hD⟩
        refine lv_iinc (v := 0) hx hb dX8_append_52 hl (k := 1) rfl (by decide) (by decide) (kTo [(2, .int 0), (3, .int x_88), (0, .ref jT), (1, .int p0)]) (fun ls hl => ?_)
        refine lv_goto (tgt := 3) hx hb dX8_append_55 (by decide) ?_
        refine lv_iload_n hx hb dX8_append_3 rfl (lv_at hl 0 rfl) ?_
        refine lv_if_lt (tgt := 58) hx hb dX8_append_4 (by decide) (fun c_106 => absurd c_106 (by decide)) (fun c_106 => ?_)
        refine lv_iload_n hx hb dX8_append_7 rfl (lv_at hl 3 rfl) ?_
        refine lv_iload_n hx hb dX8_append_8 rfl (lv_at hl 0 rfl) ?_
        obtain ⟨x_107, ex_107⟩ : ∃ z : Int32, z = (Int32.toUInt32 p0 >>> (Int32.toUInt32 0 &&& Int32.toUInt32 31)).toInt32 := ⟨_, rfl⟩
        refine lv_iushr (v := x_107) hx hb dX8_append_9 ex_107.symm ?_
        refine lv_sipush (v := 255) hx hb dX8_append_10 (by decide) ?_
        refine lv_iand hx hb dX8_append_13 ?_
        refine lv_topi (fun x_108 ex_108 => ?_)
        refine lv_istore_n hx hb dX8_append_14 rfl hl (by decide) (kTo [(3, .int x_108), (2, .int 0), (0, .ref jT), (1, .int p0)]) (fun ls hl => ?_)
        refine lv_iload_n hx hb dX8_append_15 rfl (lv_at hl 0 rfl) ?_
        have hy_109 : kS p0 0 = x_108 := by rw [ex_108, ex_107]; exact (kSu0 p0).symm
        refine lv_if_eq (tgt := 52) hx hb dX8_append_16 (by decide) (fun c_110 => ?_) (fun c_110 => ?_)
        · refine lv_iinc (v := (-8)) hx hb dX8_append_52 hl (k := 1) rfl (by decide) (by decide) (kTo [(2, .int (-8)), (3, .int x_108), (0, .ref jT), (1, .int p0)]) (fun ls hl => ?_)
          refine lv_goto (tgt := 3) hx hb dX8_append_55 (by decide) ?_
          refine lv_iload_n hx hb dX8_append_3 rfl (lv_at hl 0 rfl) ?_
          refine lv_if_lt (tgt := 58) hx hb dX8_append_4 (by decide) (fun c_111 => ?_) (fun c_111 => absurd (by decide) c_111)
          have hk8 : kCnt p0 = 2 := by simp [kCnt, kC1, hy_4, hy_84, hy_89, hy_109, c_5, c_85, c_90, c_110]
          have hP9 := hP
          have hD9 := hD
          have hK9 := hK
          rw [hQ]
          exact W.vret hx hb hr (fun t ht hW => ⟨⟨(f_104, (kt + 1 + 1), (kUpN (kUpN bt kt (kSn p0 24)) (kt + 1) (kSn p0 8))), rfl, ⟨by unfold kPut; rw [kP1_n (k := 24) (fun z => c_5 (hy_4.symm.trans z)), kP1_z (k := 16) (hy_84.trans c_85), kP1_n (k := 8) (fun z => c_90 (hy_89.symm.trans z)), kP1_z (k := 0) (hy_109.trans c_110)], (kUpB (by omega) ef_104 ex_103 hy_89 (kUpB (by omega) ef_79 ex_78 hy_4 hbt)), (kUp8 (kUp8 hb8)), by omega⟩,  by rw [ht]; exact hP9, va_K.moved hW.alike hK9, hD9⟩, hS.F ht⟩) hS.2.2 dX8_append_58
        · refine lv_aload_n hx hb dX8_append_19 rfl (lv_at hl 2 rfl) ?_
          refine va_get (D := (dC, dI)) (ci := 8) (v := .int (nI (kt + 1 + 1))) (C := RX8) (T := TX8) (N := 2) hx hb hts (fun _ h => List.mem_cons_of_mem _ (List.mem_append_right _ h)) hown hK hP 0 rfl rfl 1 (by decide) (hts (.fieldLink RX8 15 "NotEnded$Tape" "length" "I") (List.mem_cons_of_mem _ (List.mem_append_left _ (List.mem_of_getElem? (i := 0) rfl)))) (fun _ h9 => h9) rfl dX8_append_20 ?_
          refine lv_aload_n hx hb dX8_append_23 rfl (lv_at hl 2 rfl) ?_
          refine va_get (D := (dC, dI)) (ci := 8) (v := .ref t0) (C := RX8) (T := TX8) (N := 2) hx hb hts (fun _ h => List.mem_cons_of_mem _ (List.mem_append_right _ h)) hown hK hP 0 rfl rfl 0 (by decide) (hts (.fieldLink RX8 9 "NotEnded$Tape" "signs" "[C") (List.mem_cons_of_mem _ (List.mem_append_left _ (List.mem_of_getElem? (i := 1) rfl)))) (fun _ h9 => h9) rfl dX8_append_24 ?_
          refine va_alen hx hb hK hP 1 0 rfl rfl (v := 120) rfl dX8_append_27 ?_
          have hy_109_c : kC1 p0 0 = 1 := by simp [kC1, hy_109, c_110]
          refine lv_icmp_ge (tgt := 52) hx hb dX8_append_28 (by decide) (fun c_112 => absurd c_112 (nI_ge (a := kt + 1 + 1) (b := 120) (by omega) (by decide))) (fun c_112 => ?_)
          refine lv_aload_n hx hb dX8_append_31 rfl (lv_at hl 2 rfl) ?_
          refine va_get (D := (dC, dI)) (ci := 8) (v := .ref t0) (C := RX8) (T := TX8) (N := 2) hx hb hts (fun _ h => List.mem_cons_of_mem _ (List.mem_append_right _ h)) hown hK hP 0 rfl rfl 0 (by decide) (hts (.fieldLink RX8 9 "NotEnded$Tape" "signs" "[C") (List.mem_cons_of_mem _ (List.mem_append_left _ (List.mem_of_getElem? (i := 1) rfl)))) (fun _ h9 => h9) rfl dX8_append_32 ?_
          refine lv_aload_n hx hb dX8_append_35 rfl (lv_at hl 2 rfl) ?_
          refine va_get (D := (dC, dI)) (ci := 8) (v := .int (nI (kt + 1 + 1))) (C := RX8) (T := TX8) (N := 2) hx hb hts (fun _ h => List.mem_cons_of_mem _ (List.mem_append_right _ h)) hown hK hP 0 rfl rfl 1 (by decide) (hts (.fieldLink RX8 15 "NotEnded$Tape" "length" "I") (List.mem_cons_of_mem _ (List.mem_append_left _ (List.mem_of_getElem? (i := 0) rfl)))) (fun _ h9 => h9) rfl dX8_append_36 ?_
          refine lv_iload_n hx hb dX8_append_39 rfl (lv_at hl 0 rfl) ?_
          obtain ⟨x_113, ex_113⟩ : ∃ z : Int32, z = (Int32.toUInt32 x_108 % 65536).toInt32 := ⟨_, rfl⟩
          refine lv_i2c (v := x_113) hx hb dX8_append_40 ex_113.symm ?_
          refine va_cast hx hb hK hP hD hS 1 0 rfl rfl (vp_in_nI (n := kt + 1 + 1) (N := 120) (by omega) (by omega)) dX8_append_41 (fun H locs hP hD hS => ?_)
          obtain ⟨f_114, ef_114⟩ : ∃ gg9 : Nat → Int32, gg9 = upd f_104 (Int32.toNatClampNeg (nI (kt + 1 + 1))) (vp_nar .char x_113) := ⟨_, rfl⟩
          obtain ⟨hP, hD⟩ : kPD dC dI A [(jT, .inr (8, [.ref t0, .int (nI (kt + 1 + 1))])), (t0, .inl (cC, 120, .inl f_114))] H := by rw [ef_114]; exact ⟨hP, hD⟩
          refine lv_aload_n hx hb dX8_append_42 rfl (lv_at hl 2 rfl) ?_
          refine lv_dup hx hb dX8_append_43 rfl ?_
          refine va_get (D := (dC, dI)) (ci := 8) (v := .int (nI (kt + 1 + 1))) (C := RX8) (T := TX8) (N := 2) hx hb hts (fun _ h => List.mem_cons_of_mem _ (List.mem_append_right _ h)) hown hK hP 0 rfl rfl 1 (by decide) (hts (.fieldLink RX8 15 "NotEnded$Tape" "length" "I") (List.mem_cons_of_mem _ (List.mem_append_left _ (List.mem_of_getElem? (i := 0) rfl)))) (fun _ h9 => h9) rfl dX8_append_44 ?_
          refine lv_iconst (v := 1) hx hb dX8_append_47 (by decide) ?_
          refine lv_iadd hx hb dX8_append_48 ?_
          refine lv_topi (fun y_115 ey_115 => ?_)
          obtain rfl : y_115 = nI (kt + 1 + 1 + 1) := ey_115.trans (nI_add (kt + 1 + 1) (1))
          refine va_put (D := (dC, dI)) (ci := 8) (v := .int (nI (kt + 1 + 1 + 1))) (ty := tyX8 1) (C := RX8) (T := TX8) (N := 2) hx hb hts (fun _ h => List.mem_cons_of_mem _ (List.mem_append_right _ h)) tyX8 tyX8_ok nmX8 hown hK hP hD hS 0 rfl rfl 1 (by decide) (hts (.fieldLink RX8 15 "NotEnded$Tape" "length" "I") (List.mem_cons_of_mem _ (List.mem_append_left _ (List.mem_of_getElem? (i := 0) rfl)))) (fun _ h9 => h9) rfl (tyX8_ok 1 (by decide)) rfl rfl (Nat.le_of_ble_eq_true rfl) dX8_append_49 (fun H locs hP hD hS => ?_)
          obtain ⟨hP, hD⟩ : kPD dC dI A [(jT, .inr (8, [.ref t0, .int (nI (kt + 1 + 1 + 1))])), (t0, .inl (cC, 120, .inl f_114))] H := ⟨hP, hD⟩
          refine lv_iinc (v := (-8)) hx hb dX8_append_52 hl (k := 1) rfl (by decide) (by decide) (kTo [(2, .int (-8)), (3, .int x_108), (0, .ref jT), (1, .int p0)]) (fun ls hl => ?_)
          refine lv_goto (tgt := 3) hx hb dX8_append_55 (by decide) ?_
          refine lv_iload_n hx hb dX8_append_3 rfl (lv_at hl 0 rfl) ?_
          refine lv_if_lt (tgt := 58) hx hb dX8_append_4 (by decide) (fun c_116 => ?_) (fun c_116 => absurd (by decide) c_116)
          have hk8 : kCnt p0 = 3 := by simp [kCnt, kC1, hy_4, hy_84, hy_89, hy_109, c_5, c_85, c_90, c_110]
          have hP9 := hP
          have hD9 := hD
          have hK9 := hK
          rw [hQ]
          exact W.vret hx hb hr (fun t ht hW => ⟨⟨(f_114, (kt + 1 + 1 + 1), (kUpN (kUpN (kUpN bt kt (kSn p0 24)) (kt + 1) (kSn p0 8)) (kt + 1 + 1) (kSn p0 0))), rfl, ⟨by unfold kPut; rw [kP1_n (k := 24) (fun z => c_5 (hy_4.symm.trans z)), kP1_z (k := 16) (hy_84.trans c_85), kP1_n (k := 8) (fun z => c_90 (hy_89.symm.trans z)), kP1_n (k := 0) (fun z => c_110 (hy_109.symm.trans z))], (kUpB (by omega) ef_114 ex_113 hy_109 (kUpB (by omega) ef_104 ex_103 hy_89 (kUpB (by omega) ef_79 ex_78 hy_4 hbt))), (kUp8 (kUp8 (kUp8 hb8))), by omega⟩,  by rw [ht]; exact hP9, va_K.moved hW.alike hK9, hD9⟩, hS.F ht⟩) hS.2.2 dX8_append_58
    · refine lv_aload_n hx hb dX8_append_19 rfl (lv_at hl 2 rfl) ?_
      refine va_get (D := (dC, dI)) (ci := 8) (v := .int (nI (kt + 1))) (C := RX8) (T := TX8) (N := 2) hx hb hts (fun _ h => List.mem_cons_of_mem _ (List.mem_append_right _ h)) hown hK hP 0 rfl rfl 1 (by decide) (hts (.fieldLink RX8 15 "NotEnded$Tape" "length" "I") (List.mem_cons_of_mem _ (List.mem_append_left _ (List.mem_of_getElem? (i := 0) rfl)))) (fun _ h9 => h9) rfl dX8_append_20 ?_
      refine lv_aload_n hx hb dX8_append_23 rfl (lv_at hl 2 rfl) ?_
      refine va_get (D := (dC, dI)) (ci := 8) (v := .ref t0) (C := RX8) (T := TX8) (N := 2) hx hb hts (fun _ h => List.mem_cons_of_mem _ (List.mem_append_right _ h)) hown hK hP 0 rfl rfl 0 (by decide) (hts (.fieldLink RX8 9 "NotEnded$Tape" "signs" "[C") (List.mem_cons_of_mem _ (List.mem_append_left _ (List.mem_of_getElem? (i := 1) rfl)))) (fun _ h9 => h9) rfl dX8_append_24 ?_
      refine va_alen hx hb hK hP 1 0 rfl rfl (v := 120) rfl dX8_append_27 ?_
      have hy_84_c : kC1 p0 16 = 1 := by simp [kC1, hy_84, c_85]
      refine lv_icmp_ge (tgt := 52) hx hb dX8_append_28 (by decide) (fun c_117 => absurd c_117 (nI_ge (a := kt + 1) (b := 120) (by omega) (by decide))) (fun c_117 => ?_)
      refine lv_aload_n hx hb dX8_append_31 rfl (lv_at hl 2 rfl) ?_
      refine va_get (D := (dC, dI)) (ci := 8) (v := .ref t0) (C := RX8) (T := TX8) (N := 2) hx hb hts (fun _ h => List.mem_cons_of_mem _ (List.mem_append_right _ h)) hown hK hP 0 rfl rfl 0 (by decide) (hts (.fieldLink RX8 9 "NotEnded$Tape" "signs" "[C") (List.mem_cons_of_mem _ (List.mem_append_left _ (List.mem_of_getElem? (i := 1) rfl)))) (fun _ h9 => h9) rfl dX8_append_32 ?_
      refine lv_aload_n hx hb dX8_append_35 rfl (lv_at hl 2 rfl) ?_
      refine va_get (D := (dC, dI)) (ci := 8) (v := .int (nI (kt + 1))) (C := RX8) (T := TX8) (N := 2) hx hb hts (fun _ h => List.mem_cons_of_mem _ (List.mem_append_right _ h)) hown hK hP 0 rfl rfl 1 (by decide) (hts (.fieldLink RX8 15 "NotEnded$Tape" "length" "I") (List.mem_cons_of_mem _ (List.mem_append_left _ (List.mem_of_getElem? (i := 0) rfl)))) (fun _ h9 => h9) rfl dX8_append_36 ?_
      refine lv_iload_n hx hb dX8_append_39 rfl (lv_at hl 0 rfl) ?_
      obtain ⟨x_118, ex_118⟩ : ∃ z : Int32, z = (Int32.toUInt32 x_83 % 65536).toInt32 := ⟨_, rfl⟩
      refine lv_i2c (v := x_118) hx hb dX8_append_40 ex_118.symm ?_
      refine va_cast hx hb hK hP hD hS 1 0 rfl rfl (vp_in_nI (n := kt + 1) (N := 120) (by omega) (by omega)) dX8_append_41 (fun H locs hP hD hS => ?_)
      obtain ⟨f_119, ef_119⟩ : ∃ gg9 : Nat → Int32, gg9 = upd f_79 (Int32.toNatClampNeg (nI (kt + 1))) (vp_nar .char x_118) := ⟨_, rfl⟩
      obtain ⟨hP, hD⟩ : kPD dC dI A [(jT, .inr (8, [.ref t0, .int (nI (kt + 1))])), (t0, .inl (cC, 120, .inl f_119))] H := by rw [ef_119]; exact ⟨hP, hD⟩
      refine lv_aload_n hx hb dX8_append_42 rfl (lv_at hl 2 rfl) ?_
      refine lv_dup hx hb dX8_append_43 rfl ?_
      refine va_get (D := (dC, dI)) (ci := 8) (v := .int (nI (kt + 1))) (C := RX8) (T := TX8) (N := 2) hx hb hts (fun _ h => List.mem_cons_of_mem _ (List.mem_append_right _ h)) hown hK hP 0 rfl rfl 1 (by decide) (hts (.fieldLink RX8 15 "NotEnded$Tape" "length" "I") (List.mem_cons_of_mem _ (List.mem_append_left _ (List.mem_of_getElem? (i := 0) rfl)))) (fun _ h9 => h9) rfl dX8_append_44 ?_
      refine lv_iconst (v := 1) hx hb dX8_append_47 (by decide) ?_
      refine lv_iadd hx hb dX8_append_48 ?_
      refine lv_topi (fun y_120 ey_120 => ?_)
      obtain rfl : y_120 = nI (kt + 1 + 1) := ey_120.trans (nI_add (kt + 1) (1))
      refine va_put (D := (dC, dI)) (ci := 8) (v := .int (nI (kt + 1 + 1))) (ty := tyX8 1) (C := RX8) (T := TX8) (N := 2) hx hb hts (fun _ h => List.mem_cons_of_mem _ (List.mem_append_right _ h)) tyX8 tyX8_ok nmX8 hown hK hP hD hS 0 rfl rfl 1 (by decide) (hts (.fieldLink RX8 15 "NotEnded$Tape" "length" "I") (List.mem_cons_of_mem _ (List.mem_append_left _ (List.mem_of_getElem? (i := 0) rfl)))) (fun _ h9 => h9) rfl (tyX8_ok 1 (by decide)) rfl rfl (Nat.le_of_ble_eq_true rfl) dX8_append_49 (fun H locs hP hD hS => ?_)
      obtain ⟨hP, hD⟩ : kPD dC dI A [(jT, .inr (8, [.ref t0, .int (nI (kt + 1 + 1))])), (t0, .inl (cC, 120, .inl f_119))] H := ⟨hP, hD⟩
      refine lv_iinc (v := 8) hx hb dX8_append_52 hl (k := 1) rfl (by decide) (by decide) (kTo [(2, .int 8), (3, .int x_83), (0, .ref jT), (1, .int p0)]) (fun ls hl => ?_)
      refine lv_goto (tgt := 3) hx hb dX8_append_55 (by decide) ?_
      refine lv_iload_n hx hb dX8_append_3 rfl (lv_at hl 0 rfl) ?_
      refine lv_if_lt (tgt := 58) hx hb dX8_append_4 (by decide) (fun c_121 => absurd c_121 (by decide)) (fun c_121 => ?_)
      refine lv_iload_n hx hb dX8_append_7 rfl (lv_at hl 3 rfl) ?_
      refine lv_iload_n hx hb dX8_append_8 rfl (lv_at hl 0 rfl) ?_
      obtain ⟨x_122, ex_122⟩ : ∃ z : Int32, z = (Int32.toUInt32 p0 >>> (Int32.toUInt32 8 &&& Int32.toUInt32 31)).toInt32 := ⟨_, rfl⟩
      refine lv_iushr (v := x_122) hx hb dX8_append_9 ex_122.symm ?_
      refine lv_sipush (v := 255) hx hb dX8_append_10 (by decide) ?_
      refine lv_iand hx hb dX8_append_13 ?_
      refine lv_topi (fun x_123 ex_123 => ?_)
      refine lv_istore_n hx hb dX8_append_14 rfl hl (by decide) (kTo [(3, .int x_123), (2, .int 8), (0, .ref jT), (1, .int p0)]) (fun ls hl => ?_)
      refine lv_iload_n hx hb dX8_append_15 rfl (lv_at hl 0 rfl) ?_
      have hy_124 : kS p0 8 = x_123 := by rw [ex_123, ex_122]; exact (kSu8 p0).symm
      refine lv_if_eq (tgt := 52) hx hb dX8_append_16 (by decide) (fun c_125 => ?_) (fun c_125 => ?_)
      · refine lv_iinc (v := 0) hx hb dX8_append_52 hl (k := 1) rfl (by decide) (by decide) (kTo [(2, .int 0), (3, .int x_123), (0, .ref jT), (1, .int p0)]) (fun ls hl => ?_)
        refine lv_goto (tgt := 3) hx hb dX8_append_55 (by decide) ?_
        refine lv_iload_n hx hb dX8_append_3 rfl (lv_at hl 0 rfl) ?_
        refine lv_if_lt (tgt := 58) hx hb dX8_append_4 (by decide) (fun c_126 => absurd c_126 (by decide)) (fun c_126 => ?_)
        refine lv_iload_n hx hb dX8_append_7 rfl (lv_at hl 3 rfl) ?_
        refine lv_iload_n hx hb dX8_append_8 rfl (lv_at hl 0 rfl) ?_
        obtain ⟨x_127, ex_127⟩ : ∃ z : Int32, z = (Int32.toUInt32 p0 >>> (Int32.toUInt32 0 &&& Int32.toUInt32 31)).toInt32 := ⟨_, rfl⟩
        refine lv_iushr (v := x_127) hx hb dX8_append_9 ex_127.symm ?_
        refine lv_sipush (v := 255) hx hb dX8_append_10 (by decide) ?_
        refine lv_iand hx hb dX8_append_13 ?_
        refine lv_topi (fun x_128 ex_128 => ?_)
        refine lv_istore_n hx hb dX8_append_14 rfl hl (by decide) (kTo [(3, .int x_128), (2, .int 0), (0, .ref jT), (1, .int p0)]) (fun ls hl => ?_)
        refine lv_iload_n hx hb dX8_append_15 rfl (lv_at hl 0 rfl) ?_
        have hy_129 : kS p0 0 = x_128 := by rw [ex_128, ex_127]; exact (kSu0 p0).symm
        refine lv_if_eq (tgt := 52) hx hb dX8_append_16 (by decide) (fun c_130 => ?_) (fun c_130 => ?_)
        · refine lv_iinc (v := (-8)) hx hb dX8_append_52 hl (k := 1) rfl (by decide) (by decide) (kTo [(2, .int (-8)), (3, .int x_128), (0, .ref jT), (1, .int p0)]) (fun ls hl => ?_)
          refine lv_goto (tgt := 3) hx hb dX8_append_55 (by decide) ?_
          refine lv_iload_n hx hb dX8_append_3 rfl (lv_at hl 0 rfl) ?_
          refine lv_if_lt (tgt := 58) hx hb dX8_append_4 (by decide) (fun c_131 => ?_) (fun c_131 => absurd (by decide) c_131)
          have hk8 : kCnt p0 = 2 := by simp [kCnt, kC1, hy_4, hy_84, hy_124, hy_129, c_5, c_85, c_125, c_130]
          have hP9 := hP
          have hD9 := hD
          have hK9 := hK
          rw [hQ]
          exact W.vret hx hb hr (fun t ht hW => ⟨⟨(f_119, (kt + 1 + 1), (kUpN (kUpN bt kt (kSn p0 24)) (kt + 1) (kSn p0 16))), rfl, ⟨by unfold kPut; rw [kP1_n (k := 24) (fun z => c_5 (hy_4.symm.trans z)), kP1_n (k := 16) (fun z => c_85 (hy_84.symm.trans z)), kP1_z (k := 8) (hy_124.trans c_125), kP1_z (k := 0) (hy_129.trans c_130)], (kUpB (by omega) ef_119 ex_118 hy_84 (kUpB (by omega) ef_79 ex_78 hy_4 hbt)), (kUp8 (kUp8 hb8)), by omega⟩,  by rw [ht]; exact hP9, va_K.moved hW.alike hK9, hD9⟩, hS.F ht⟩) hS.2.2 dX8_append_58
        · refine lv_aload_n hx hb dX8_append_19 rfl (lv_at hl 2 rfl) ?_
          refine va_get (D := (dC, dI)) (ci := 8) (v := .int (nI (kt + 1 + 1))) (C := RX8) (T := TX8) (N := 2) hx hb hts (fun _ h => List.mem_cons_of_mem _ (List.mem_append_right _ h)) hown hK hP 0 rfl rfl 1 (by decide) (hts (.fieldLink RX8 15 "NotEnded$Tape" "length" "I") (List.mem_cons_of_mem _ (List.mem_append_left _ (List.mem_of_getElem? (i := 0) rfl)))) (fun _ h9 => h9) rfl dX8_append_20 ?_
          refine lv_aload_n hx hb dX8_append_23 rfl (lv_at hl 2 rfl) ?_
          refine va_get (D := (dC, dI)) (ci := 8) (v := .ref t0) (C := RX8) (T := TX8) (N := 2) hx hb hts (fun _ h => List.mem_cons_of_mem _ (List.mem_append_right _ h)) hown hK hP 0 rfl rfl 0 (by decide) (hts (.fieldLink RX8 9 "NotEnded$Tape" "signs" "[C") (List.mem_cons_of_mem _ (List.mem_append_left _ (List.mem_of_getElem? (i := 1) rfl)))) (fun _ h9 => h9) rfl dX8_append_24 ?_
          refine va_alen hx hb hK hP 1 0 rfl rfl (v := 120) rfl dX8_append_27 ?_
          have hy_129_c : kC1 p0 0 = 1 := by simp [kC1, hy_129, c_130]
          refine lv_icmp_ge (tgt := 52) hx hb dX8_append_28 (by decide) (fun c_132 => absurd c_132 (nI_ge (a := kt + 1 + 1) (b := 120) (by omega) (by decide))) (fun c_132 => ?_)
          refine lv_aload_n hx hb dX8_append_31 rfl (lv_at hl 2 rfl) ?_
          refine va_get (D := (dC, dI)) (ci := 8) (v := .ref t0) (C := RX8) (T := TX8) (N := 2) hx hb hts (fun _ h => List.mem_cons_of_mem _ (List.mem_append_right _ h)) hown hK hP 0 rfl rfl 0 (by decide) (hts (.fieldLink RX8 9 "NotEnded$Tape" "signs" "[C") (List.mem_cons_of_mem _ (List.mem_append_left _ (List.mem_of_getElem? (i := 1) rfl)))) (fun _ h9 => h9) rfl dX8_append_32 ?_
          refine lv_aload_n hx hb dX8_append_35 rfl (lv_at hl 2 rfl) ?_
          refine va_get (D := (dC, dI)) (ci := 8) (v := .int (nI (kt + 1 + 1))) (C := RX8) (T := TX8) (N := 2) hx hb hts (fun _ h => List.mem_cons_of_mem _ (List.mem_append_right _ h)) hown hK hP 0 rfl rfl 1 (by decide) (hts (.fieldLink RX8 15 "NotEnded$Tape" "length" "I") (List.mem_cons_of_mem _ (List.mem_append_left _ (List.mem_of_getElem? (i := 0) rfl)))) (fun _ h9 => h9) rfl dX8_append_36 ?_
          refine lv_iload_n hx hb dX8_append_39 rfl (lv_at hl 0 rfl) ?_
          obtain ⟨x_133, ex_133⟩ : ∃ z : Int32, z = (Int32.toUInt32 x_128 % 65536).toInt32 := ⟨_, rfl⟩
          refine lv_i2c (v := x_133) hx hb dX8_append_40 ex_133.symm ?_
          refine va_cast hx hb hK hP hD hS 1 0 rfl rfl (vp_in_nI (n := kt + 1 + 1) (N := 120) (by omega) (by omega)) dX8_append_41 (fun H locs hP hD hS => ?_)
          obtain ⟨f_134, ef_134⟩ : ∃ gg9 : Nat → Int32, gg9 = upd f_119 (Int32.toNatClampNeg (nI (kt + 1 + 1))) (vp_nar .char x_133) := ⟨_, rfl⟩
          obtain ⟨hP, hD⟩ : kPD dC dI A [(jT, .inr (8, [.ref t0, .int (nI (kt + 1 + 1))])), (t0, .inl (cC, 120, .inl f_134))] H := by rw [ef_134]; exact ⟨hP, hD⟩
          refine lv_aload_n hx hb dX8_append_42 rfl (lv_at hl 2 rfl) ?_
          refine lv_dup hx hb dX8_append_43 rfl ?_
          refine va_get (D := (dC, dI)) (ci := 8) (v := .int (nI (kt + 1 + 1))) (C := RX8) (T := TX8) (N := 2) hx hb hts (fun _ h => List.mem_cons_of_mem _ (List.mem_append_right _ h)) hown hK hP 0 rfl rfl 1 (by decide) (hts (.fieldLink RX8 15 "NotEnded$Tape" "length" "I") (List.mem_cons_of_mem _ (List.mem_append_left _ (List.mem_of_getElem? (i := 0) rfl)))) (fun _ h9 => h9) rfl dX8_append_44 ?_
          refine lv_iconst (v := 1) hx hb dX8_append_47 (by decide) ?_
          refine lv_iadd hx hb dX8_append_48 ?_
          refine lv_topi (fun y_135 ey_135 => ?_)
          obtain rfl : y_135 = nI (kt + 1 + 1 + 1) := ey_135.trans (nI_add (kt + 1 + 1) (1))
          refine va_put (D := (dC, dI)) (ci := 8) (v := .int (nI (kt + 1 + 1 + 1))) (ty := tyX8 1) (C := RX8) (T := TX8) (N := 2) hx hb hts (fun _ h => List.mem_cons_of_mem _ (List.mem_append_right _ h)) tyX8 tyX8_ok nmX8 hown hK hP hD hS 0 rfl rfl 1 (by decide) (hts (.fieldLink RX8 15 "NotEnded$Tape" "length" "I") (List.mem_cons_of_mem _ (List.mem_append_left _ (List.mem_of_getElem? (i := 0) rfl)))) (fun _ h9 => h9) rfl (tyX8_ok 1 (by decide)) rfl rfl (Nat.le_of_ble_eq_true rfl) dX8_append_49 (fun H locs hP hD hS => ?_)
          obtain ⟨hP, hD⟩ : kPD dC dI A [(jT, .inr (8, [.ref t0, .int (nI (kt + 1 + 1 + 1))])), (t0, .inl (cC, 120, .inl f_134))] H := ⟨hP, hD⟩
          refine lv_iinc (v := (-8)) hx hb dX8_append_52 hl (k := 1) rfl (by decide) (by decide) (kTo [(2, .int (-8)), (3, .int x_128), (0, .ref jT), (1, .int p0)]) (fun ls hl => ?_)
          refine lv_goto (tgt := 3) hx hb dX8_append_55 (by decide) ?_
          refine lv_iload_n hx hb dX8_append_3 rfl (lv_at hl 0 rfl) ?_
          refine lv_if_lt (tgt := 58) hx hb dX8_append_4 (by decide) (fun c_136 => ?_) (fun c_136 => absurd (by decide) c_136)
          have hk8 : kCnt p0 = 3 := by simp [kCnt, kC1, hy_4, hy_84, hy_124, hy_129, c_5, c_85, c_125, c_130]
          have hP9 := hP
          have hD9 := hD
          have hK9 := hK
          rw [hQ]
          exact W.vret hx hb hr (fun t ht hW => ⟨⟨(f_134, (kt + 1 + 1 + 1), (kUpN (kUpN (kUpN bt kt (kSn p0 24)) (kt + 1) (kSn p0 16)) (kt + 1 + 1) (kSn p0 0))), rfl, ⟨by unfold kPut; rw [kP1_n (k := 24) (fun z => c_5 (hy_4.symm.trans z)), kP1_n (k := 16) (fun z => c_85 (hy_84.symm.trans z)), kP1_z (k := 8) (hy_124.trans c_125), kP1_n (k := 0) (fun z => c_130 (hy_129.symm.trans z))], (kUpB (by omega) ef_134 ex_133 hy_129 (kUpB (by omega) ef_119 ex_118 hy_84 (kUpB (by omega) ef_79 ex_78 hy_4 hbt))), (kUp8 (kUp8 (kUp8 hb8))), by omega⟩,  by rw [ht]; exact hP9, va_K.moved hW.alike hK9, hD9⟩, hS.F ht⟩) hS.2.2 dX8_append_58
      · refine lv_aload_n hx hb dX8_append_19 rfl (lv_at hl 2 rfl) ?_
        refine va_get (D := (dC, dI)) (ci := 8) (v := .int (nI (kt + 1 + 1))) (C := RX8) (T := TX8) (N := 2) hx hb hts (fun _ h => List.mem_cons_of_mem _ (List.mem_append_right _ h)) hown hK hP 0 rfl rfl 1 (by decide) (hts (.fieldLink RX8 15 "NotEnded$Tape" "length" "I") (List.mem_cons_of_mem _ (List.mem_append_left _ (List.mem_of_getElem? (i := 0) rfl)))) (fun _ h9 => h9) rfl dX8_append_20 ?_
        refine lv_aload_n hx hb dX8_append_23 rfl (lv_at hl 2 rfl) ?_
        refine va_get (D := (dC, dI)) (ci := 8) (v := .ref t0) (C := RX8) (T := TX8) (N := 2) hx hb hts (fun _ h => List.mem_cons_of_mem _ (List.mem_append_right _ h)) hown hK hP 0 rfl rfl 0 (by decide) (hts (.fieldLink RX8 9 "NotEnded$Tape" "signs" "[C") (List.mem_cons_of_mem _ (List.mem_append_left _ (List.mem_of_getElem? (i := 1) rfl)))) (fun _ h9 => h9) rfl dX8_append_24 ?_
        refine va_alen hx hb hK hP 1 0 rfl rfl (v := 120) rfl dX8_append_27 ?_
        have hy_124_c : kC1 p0 8 = 1 := by simp [kC1, hy_124, c_125]
        refine lv_icmp_ge (tgt := 52) hx hb dX8_append_28 (by decide) (fun c_137 => absurd c_137 (nI_ge (a := kt + 1 + 1) (b := 120) (by omega) (by decide))) (fun c_137 => ?_)
        refine lv_aload_n hx hb dX8_append_31 rfl (lv_at hl 2 rfl) ?_
        refine va_get (D := (dC, dI)) (ci := 8) (v := .ref t0) (C := RX8) (T := TX8) (N := 2) hx hb hts (fun _ h => List.mem_cons_of_mem _ (List.mem_append_right _ h)) hown hK hP 0 rfl rfl 0 (by decide) (hts (.fieldLink RX8 9 "NotEnded$Tape" "signs" "[C") (List.mem_cons_of_mem _ (List.mem_append_left _ (List.mem_of_getElem? (i := 1) rfl)))) (fun _ h9 => h9) rfl dX8_append_32 ?_
        refine lv_aload_n hx hb dX8_append_35 rfl (lv_at hl 2 rfl) ?_
        refine va_get (D := (dC, dI)) (ci := 8) (v := .int (nI (kt + 1 + 1))) (C := RX8) (T := TX8) (N := 2) hx hb hts (fun _ h => List.mem_cons_of_mem _ (List.mem_append_right _ h)) hown hK hP 0 rfl rfl 1 (by decide) (hts (.fieldLink RX8 15 "NotEnded$Tape" "length" "I") (List.mem_cons_of_mem _ (List.mem_append_left _ (List.mem_of_getElem? (i := 0) rfl)))) (fun _ h9 => h9) rfl dX8_append_36 ?_
        refine lv_iload_n hx hb dX8_append_39 rfl (lv_at hl 0 rfl) ?_
        obtain ⟨x_138, ex_138⟩ : ∃ z : Int32, z = (Int32.toUInt32 x_123 % 65536).toInt32 := ⟨_, rfl⟩
        refine lv_i2c (v := x_138) hx hb dX8_append_40 ex_138.symm ?_
        refine va_cast hx hb hK hP hD hS 1 0 rfl rfl (vp_in_nI (n := kt + 1 + 1) (N := 120) (by omega) (by omega)) dX8_append_41 (fun H locs hP hD hS => ?_)
        obtain ⟨f_139, ef_139⟩ : ∃ gg9 : Nat → Int32, gg9 = upd f_119 (Int32.toNatClampNeg (nI (kt + 1 + 1))) (vp_nar .char x_138) := ⟨_, rfl⟩
        obtain ⟨hP, hD⟩ : kPD dC dI A [(jT, .inr (8, [.ref t0, .int (nI (kt + 1 + 1))])), (t0, .inl (cC, 120, .inl f_139))] H := by rw [ef_139]; exact ⟨hP, hD⟩
        refine lv_aload_n hx hb dX8_append_42 rfl (lv_at hl 2 rfl) ?_
        refine lv_dup hx hb dX8_append_43 rfl ?_
        refine va_get (D := (dC, dI)) (ci := 8) (v := .int (nI (kt + 1 + 1))) (C := RX8) (T := TX8) (N := 2) hx hb hts (fun _ h => List.mem_cons_of_mem _ (List.mem_append_right _ h)) hown hK hP 0 rfl rfl 1 (by decide) (hts (.fieldLink RX8 15 "NotEnded$Tape" "length" "I") (List.mem_cons_of_mem _ (List.mem_append_left _ (List.mem_of_getElem? (i := 0) rfl)))) (fun _ h9 => h9) rfl dX8_append_44 ?_
        refine lv_iconst (v := 1) hx hb dX8_append_47 (by decide) ?_
        refine lv_iadd hx hb dX8_append_48 ?_
        refine lv_topi (fun y_140 ey_140 => ?_)
        obtain rfl : y_140 = nI (kt + 1 + 1 + 1) := ey_140.trans (nI_add (kt + 1 + 1) (1))
        refine va_put (D := (dC, dI)) (ci := 8) (v := .int (nI (kt + 1 + 1 + 1))) (ty := tyX8 1) (C := RX8) (T := TX8) (N := 2) hx hb hts (fun _ h => List.mem_cons_of_mem _ (List.mem_append_right _ h)) tyX8 tyX8_ok nmX8 hown hK hP hD hS 0 rfl rfl 1 (by decide) (hts (.fieldLink RX8 15 "NotEnded$Tape" "length" "I") (List.mem_cons_of_mem _ (List.mem_append_left _ (List.mem_of_getElem? (i := 0) rfl)))) (fun _ h9 => h9) rfl (tyX8_ok 1 (by decide)) rfl rfl (Nat.le_of_ble_eq_true rfl) dX8_append_49 (fun H locs hP hD hS => ?_)
        obtain ⟨hP, hD⟩ : kPD dC dI A [(jT, .inr (8, [.ref t0, .int (nI (kt + 1 + 1 + 1))])), (t0, .inl (cC, 120, .inl f_139))] H := ⟨hP, hD⟩
        refine lv_iinc (v := 0) hx hb dX8_append_52 hl (k := 1) rfl (by decide) (by decide) (kTo [(2, .int 0), (3, .int x_123), (0, .ref jT), (1, .int p0)]) (fun ls hl => ?_)
        refine lv_goto (tgt := 3) hx hb dX8_append_55 (by decide) ?_
        refine lv_iload_n hx hb dX8_append_3 rfl (lv_at hl 0 rfl) ?_
        refine lv_if_lt (tgt := 58) hx hb dX8_append_4 (by decide) (fun c_141 => absurd c_141 (by decide)) (fun c_141 => ?_)
        refine lv_iload_n hx hb dX8_append_7 rfl (lv_at hl 3 rfl) ?_
        refine lv_iload_n hx hb dX8_append_8 rfl (lv_at hl 0 rfl) ?_
        obtain ⟨x_142, ex_142⟩ : ∃ z : Int32, z = (Int32.toUInt32 p0 >>> (Int32.toUInt32 0 &&& Int32.toUInt32 31)).toInt32 := ⟨_, rfl⟩
        refine lv_iushr (v := x_142) hx hb dX8_append_9 ex_142.symm ?_
        refine lv_sipush (v := 255) hx hb dX8_append_10 (by decide) ?_
        refine lv_iand hx hb dX8_append_13 ?_
        refine lv_topi (fun x_143 ex_143 => ?_)
        refine lv_istore_n hx hb dX8_append_14 rfl hl (by decide) (kTo [(3, .int x_143), (2, .int 0), (0, .ref jT), (1, .int p0)]) (fun ls hl => ?_)
        refine lv_iload_n hx hb dX8_append_15 rfl (lv_at hl 0 rfl) ?_
        have hy_144 : kS p0 0 = x_143 := by rw [ex_143, ex_142]; exact (kSu0 p0).symm
        refine lv_if_eq (tgt := 52) hx hb dX8_append_16 (by decide) (fun c_145 => ?_) (fun c_145 => ?_)
        · refine lv_iinc (v := (-8)) hx hb dX8_append_52 hl (k := 1) rfl (by decide) (by decide) (kTo [(2, .int (-8)), (3, .int x_143), (0, .ref jT), (1, .int p0)]) (fun ls hl => ?_)
          refine lv_goto (tgt := 3) hx hb dX8_append_55 (by decide) ?_
          refine lv_iload_n hx hb dX8_append_3 rfl (lv_at hl 0 rfl) ?_
          refine lv_if_lt (tgt := 58) hx hb dX8_append_4 (by decide) (fun c_146 => ?_) (fun c_146 => absurd (by decide) c_146)
          have hk8 : kCnt p0 = 3 := by simp [kCnt, kC1, hy_4, hy_84, hy_124, hy_144, c_5, c_85, c_125, c_145]
          have hP9 := hP
          have hD9 := hD
          have hK9 := hK
          rw [hQ]
          exact W.vret hx hb hr (fun t ht hW => ⟨⟨(f_139, (kt + 1 + 1 + 1), (kUpN (kUpN (kUpN bt kt (kSn p0 24)) (kt + 1) (kSn p0 16)) (kt + 1 + 1) (kSn p0 8))), rfl, ⟨by unfold kPut; rw [kP1_n (k := 24) (fun z => c_5 (hy_4.symm.trans z)), kP1_n (k := 16) (fun z => c_85 (hy_84.symm.trans z)), kP1_n (k := 8) (fun z => c_125 (hy_124.symm.trans z)), kP1_z (k := 0) (hy_144.trans c_145)], (kUpB (by omega) ef_139 ex_138 hy_124 (kUpB (by omega) ef_119 ex_118 hy_84 (kUpB (by omega) ef_79 ex_78 hy_4 hbt))), (kUp8 (kUp8 (kUp8 hb8))), by omega⟩,  by rw [ht]; exact hP9, va_K.moved hW.alike hK9, hD9⟩, hS.F ht⟩) hS.2.2 dX8_append_58
        · refine lv_aload_n hx hb dX8_append_19 rfl (lv_at hl 2 rfl) ?_
          refine va_get (D := (dC, dI)) (ci := 8) (v := .int (nI (kt + 1 + 1 + 1))) (C := RX8) (T := TX8) (N := 2) hx hb hts (fun _ h => List.mem_cons_of_mem _ (List.mem_append_right _ h)) hown hK hP 0 rfl rfl 1 (by decide) (hts (.fieldLink RX8 15 "NotEnded$Tape" "length" "I") (List.mem_cons_of_mem _ (List.mem_append_left _ (List.mem_of_getElem? (i := 0) rfl)))) (fun _ h9 => h9) rfl dX8_append_20 ?_
          refine lv_aload_n hx hb dX8_append_23 rfl (lv_at hl 2 rfl) ?_
          refine va_get (D := (dC, dI)) (ci := 8) (v := .ref t0) (C := RX8) (T := TX8) (N := 2) hx hb hts (fun _ h => List.mem_cons_of_mem _ (List.mem_append_right _ h)) hown hK hP 0 rfl rfl 0 (by decide) (hts (.fieldLink RX8 9 "NotEnded$Tape" "signs" "[C") (List.mem_cons_of_mem _ (List.mem_append_left _ (List.mem_of_getElem? (i := 1) rfl)))) (fun _ h9 => h9) rfl dX8_append_24 ?_
          refine va_alen hx hb hK hP 1 0 rfl rfl (v := 120) rfl dX8_append_27 ?_
          have hy_144_c : kC1 p0 0 = 1 := by simp [kC1, hy_144, c_145]
          refine lv_icmp_ge (tgt := 52) hx hb dX8_append_28 (by decide) (fun c_147 => absurd c_147 (nI_ge (a := kt + 1 + 1 + 1) (b := 120) (by omega) (by decide))) (fun c_147 => ?_)
          refine lv_aload_n hx hb dX8_append_31 rfl (lv_at hl 2 rfl) ?_
          refine va_get (D := (dC, dI)) (ci := 8) (v := .ref t0) (C := RX8) (T := TX8) (N := 2) hx hb hts (fun _ h => List.mem_cons_of_mem _ (List.mem_append_right _ h)) hown hK hP 0 rfl rfl 0 (by decide) (hts (.fieldLink RX8 9 "NotEnded$Tape" "signs" "[C") (List.mem_cons_of_mem _ (List.mem_append_left _ (List.mem_of_getElem? (i := 1) rfl)))) (fun _ h9 => h9) rfl dX8_append_32 ?_
          refine lv_aload_n hx hb dX8_append_35 rfl (lv_at hl 2 rfl) ?_
          refine va_get (D := (dC, dI)) (ci := 8) (v := .int (nI (kt + 1 + 1 + 1))) (C := RX8) (T := TX8) (N := 2) hx hb hts (fun _ h => List.mem_cons_of_mem _ (List.mem_append_right _ h)) hown hK hP 0 rfl rfl 1 (by decide) (hts (.fieldLink RX8 15 "NotEnded$Tape" "length" "I") (List.mem_cons_of_mem _ (List.mem_append_left _ (List.mem_of_getElem? (i := 0) rfl)))) (fun _ h9 => h9) rfl dX8_append_36 ?_
          refine lv_iload_n hx hb dX8_append_39 rfl (lv_at hl 0 rfl) ?_
          obtain ⟨x_148, ex_148⟩ : ∃ z : Int32, z = (Int32.toUInt32 x_143 % 65536).toInt32 := ⟨_, rfl⟩
          refine lv_i2c (v := x_148) hx hb dX8_append_40 ex_148.symm ?_
          refine va_cast hx hb hK hP hD hS 1 0 rfl rfl (vp_in_nI (n := kt + 1 + 1 + 1) (N := 120) (by omega) (by omega)) dX8_append_41 (fun H locs hP hD hS => ?_)
          obtain ⟨f_149, ef_149⟩ : ∃ gg9 : Nat → Int32, gg9 = upd f_139 (Int32.toNatClampNeg (nI (kt + 1 + 1 + 1))) (vp_nar .char x_148) := ⟨_, rfl⟩
          obtain ⟨hP, hD⟩ : kPD dC dI A [(jT, .inr (8, [.ref t0, .int (nI (kt + 1 + 1 + 1))])), (t0, .inl (cC, 120, .inl f_149))] H := by rw [ef_149]; exact ⟨hP, hD⟩
          refine lv_aload_n hx hb dX8_append_42 rfl (lv_at hl 2 rfl) ?_
          refine lv_dup hx hb dX8_append_43 rfl ?_
          refine va_get (D := (dC, dI)) (ci := 8) (v := .int (nI (kt + 1 + 1 + 1))) (C := RX8) (T := TX8) (N := 2) hx hb hts (fun _ h => List.mem_cons_of_mem _ (List.mem_append_right _ h)) hown hK hP 0 rfl rfl 1 (by decide) (hts (.fieldLink RX8 15 "NotEnded$Tape" "length" "I") (List.mem_cons_of_mem _ (List.mem_append_left _ (List.mem_of_getElem? (i := 0) rfl)))) (fun _ h9 => h9) rfl dX8_append_44 ?_
          refine lv_iconst (v := 1) hx hb dX8_append_47 (by decide) ?_
          refine lv_iadd hx hb dX8_append_48 ?_
          refine lv_topi (fun y_150 ey_150 => ?_)
          obtain rfl : y_150 = nI (kt + 1 + 1 + 1 + 1) := ey_150.trans (nI_add (kt + 1 + 1 + 1) (1))
          refine va_put (D := (dC, dI)) (ci := 8) (v := .int (nI (kt + 1 + 1 + 1 + 1))) (ty := tyX8 1) (C := RX8) (T := TX8) (N := 2) hx hb hts (fun _ h => List.mem_cons_of_mem _ (List.mem_append_right _ h)) tyX8 tyX8_ok nmX8 hown hK hP hD hS 0 rfl rfl 1 (by decide) (hts (.fieldLink RX8 15 "NotEnded$Tape" "length" "I") (List.mem_cons_of_mem _ (List.mem_append_left _ (List.mem_of_getElem? (i := 0) rfl)))) (fun _ h9 => h9) rfl (tyX8_ok 1 (by decide)) rfl rfl (Nat.le_of_ble_eq_true rfl) dX8_append_49 (fun H locs hP hD hS => ?_)
          obtain ⟨hP, hD⟩ : kPD dC dI A [(jT, .inr (8, [.ref t0, .int (nI (kt + 1 + 1 + 1 + 1))])), (t0, .inl (cC, 120, .inl f_149))] H := ⟨hP, hD⟩
          refine lv_iinc (v := (-8)) hx hb dX8_append_52 hl (k := 1) rfl (by decide) (by decide) (kTo [(2, .int (-8)), (3, .int x_143), (0, .ref jT), (1, .int p0)]) (fun ls hl => ?_)
          refine lv_goto (tgt := 3) hx hb dX8_append_55 (by decide) ?_
          refine lv_iload_n hx hb dX8_append_3 rfl (lv_at hl 0 rfl) ?_
          refine lv_if_lt (tgt := 58) hx hb dX8_append_4 (by decide) (fun c_151 => ?_) (fun c_151 => absurd (by decide) c_151)
          have hk8 : kCnt p0 = 4 := by simp [kCnt, kC1, hy_4, hy_84, hy_124, hy_144, c_5, c_85, c_125, c_145]
          have hP9 := hP
          have hD9 := hD
          have hK9 := hK
          rw [hQ]
          exact W.vret hx hb hr (fun t ht hW => ⟨⟨(f_149, (kt + 1 + 1 + 1 + 1), (kUpN (kUpN (kUpN (kUpN bt kt (kSn p0 24)) (kt + 1) (kSn p0 16)) (kt + 1 + 1) (kSn p0 8)) (kt + 1 + 1 + 1) (kSn p0 0))), rfl, ⟨by unfold kPut; rw [kP1_n (k := 24) (fun z => c_5 (hy_4.symm.trans z)), kP1_n (k := 16) (fun z => c_85 (hy_84.symm.trans z)), kP1_n (k := 8) (fun z => c_125 (hy_124.symm.trans z)), kP1_n (k := 0) (fun z => c_145 (hy_144.symm.trans z))], (kUpB (by omega) ef_149 ex_148 hy_144 (kUpB (by omega) ef_139 ex_138 hy_124 (kUpB (by omega) ef_119 ex_118 hy_84 (kUpB (by omega) ef_79 ex_78 hy_4 hbt)))), (kUp8 (kUp8 (kUp8 (kUp8 hb8)))), by omega⟩,  by rw [ht]; exact hP9, va_K.moved hW.alike hK9, hD9⟩, hS.F ht⟩) hS.2.2 dX8_append_58
