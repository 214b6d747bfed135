def w_s_join5x : List Cond := .code yX5_join cX5_join 3 (some .long) :: ([])
theorem gw_s_join5x : (w_s_join5x).all goodWord = true := kGc rfl kGn
set_option maxHeartbeats 4000000 in
set_option maxRecDepth 100000 in
theorem s_join5x (l : Launch) (dC : Nat → ClassId) (dI : Nat → Nat → Nat) (p0 : Int32) (p1 : Int32) (p2 : Int32) : Met l yX5_join w_s_join5x ({ frames := 1, cells := 0, slots := 0, locals := 60 }) (kR dC dI [.int p0, .int p1, .int p2] [] [] kT) (vp_Sl (fun r : Int64 => Int64.toInt r = kJi p0 p1 p2)) 0 0 (fun _ => False) := by
  refine Met.ofW (cc := cX5_join) (maxL := 3) (ret := (some .long)) (by decide) rfl ?_
  intro p e s m args below meth c s₁ B hml hv
  obtain ⟨rfl, hP, hK, hX⟩ := hv
  have hx := B.exec
  have hb := B.bytes
  have hr := B.returns
  have hts := atoms_spec (ws := w_s_join5x) B.pre
  have hown : s.vm.findClass RX5 = some m.cls := findClass_of_methodNamed B.named
  have hlocks := B.notSynchronized
  have hP : va_P (dC, dI) vwCl [] s.heap := hP
  have hl := lv_entry ([.int p0, .int p1, .int p2]) (n := 3) (Nat.le_of_ble_eq_true rfl)
  rw [lg_entry_eq]
  generalize (lg_sl ([.int p0, .int p1, .int p2]) ++ List.replicate (3 - (lg_sl ([.int p0, .int p1, .int p2])).length) Slot.unset).toArray = ls at hl ⊢
  have hl : lv_has ls 3 [(0, .int p0), (1, .int p1), (2, .int p2)] := hl
  refine kQ (fun Q hQ => ?_)
  refine lv_iload_n hx hb dX5_join_0 rfl (lv_at hl 0 rfl) ?_
  rcases kSw38 p0 with rfl | rfl | rfl | rfl | rfl | rfl | rfl | rfl | rfl | rfl | rfl | rfl | rfl | rfl | rfl | rfl | rfl | rfl | rfl | rfl | rfl | rfl | rfl | rfl | rfl | h_1
  · refine lv_tableIn (tgt := 180) hx hb dX5_join_1 (by decide) (by decide) rfl (by decide) ?_
    refine lv_iload_n hx hb dX5_join_180 rfl (lv_at hl 1 rfl) ?_
    refine lv_iload_n hx hb dX5_join_181 rfl (lv_at hl 2 rfl) ?_
    refine lv_iand hx hb dX5_join_182 ?_
    refine lv_topi (fun x_2 ex_2 => ?_)
    obtain ⟨z_3, ez_3⟩ : ∃ z : Int64, z = Int32.toInt64 x_2 := ⟨_, rfl⟩
    refine lv_i2l (v := z_3) hx hb dX5_join_183 ez_3.symm ?_
    rw [hQ]
    exact W.lret (v := z_3) hx hb hr (fun t ht hW => ⟨z_3, rfl, (by unfold kJi; rw [if_neg (by decide), if_neg (by decide), if_neg (by decide), if_neg (by decide), if_neg (by decide), if_neg (by decide), if_neg (by decide), if_pos rfl]; subst_vars; exact Int32.toInt_toInt64 _), ht⟩) (fun _ h => nomatch h) dX5_join_184
  · refine lv_tableIn (tgt := 185) hx hb dX5_join_1 (by decide) (by decide) rfl (by decide) ?_
    refine lv_iload_n hx hb dX5_join_185 rfl (lv_at hl 1 rfl) ?_
    refine lv_iload_n hx hb dX5_join_186 rfl (lv_at hl 2 rfl) ?_
    refine lv_ior hx hb dX5_join_187 ?_
    refine lv_topi (fun x_4 ex_4 => ?_)
    obtain ⟨z_5, ez_5⟩ : ∃ z : Int64, z = Int32.toInt64 x_4 := ⟨_, rfl⟩
    refine lv_i2l (v := z_5) hx hb dX5_join_188 ez_5.symm ?_
    rw [hQ]
    exact W.lret (v := z_5) hx hb hr (fun t ht hW => ⟨z_5, rfl, (by unfold kJi; rw [if_neg (by decide), if_neg (by decide), if_neg (by decide), if_neg (by decide), if_neg (by decide), if_neg (by decide), if_neg (by decide), if_neg (by decide)]; subst_vars; exact Int32.toInt_toInt64 _), ht⟩) (fun _ h => nomatch h) dX5_join_189
  · refine lv_tableIn (tgt := 185) hx hb dX5_join_1 (by decide) (by decide) rfl (by decide) ?_
    refine lv_iload_n hx hb dX5_join_185 rfl (lv_at hl 1 rfl) ?_
    refine lv_iload_n hx hb dX5_join_186 rfl (lv_at hl 2 rfl) ?_
    refine lv_ior hx hb dX5_join_187 ?_
    refine lv_topi (fun x_6 ex_6 => ?_)
    obtain ⟨z_7, ez_7⟩ : ∃ z : Int64, z = Int32.toInt64 x_6 := ⟨_, rfl⟩
    refine lv_i2l (v := z_7) hx hb dX5_join_188 ez_7.symm ?_
    rw [hQ]
    exact W.lret (v := z_7) hx hb hr (fun t ht hW => ⟨z_7, rfl, (by unfold kJi; rw [if_neg (by decide), if_neg (by decide), if_neg (by decide), if_neg (by decide), if_neg (by decide), if_neg (by decide), if_neg (by decide), if_neg (by decide)]; subst_vars; exact Int32.toInt_toInt64 _), ht⟩) (fun _ h => nomatch h) dX5_join_189
  · refine lv_tableIn (tgt := 185) hx hb dX5_join_1 (by decide) (by decide) rfl (by decide) ?_
    refine lv_iload_n hx hb dX5_join_185 rfl (lv_at hl 1 rfl) ?_
    refine lv_iload_n hx hb dX5_join_186 rfl (lv_at hl 2 rfl) ?_
    refine lv_ior hx hb dX5_join_187 ?_
    refine lv_topi (fun x_8 ex_8 => ?_)
    obtain ⟨z_9, ez_9⟩ : ∃ z : Int64, z = Int32.toInt64 x_8 := ⟨_, rfl⟩
    refine lv_i2l (v := z_9) hx hb dX5_join_188 ez_9.symm ?_
    rw [hQ]
    exact W.lret (v := z_9) hx hb hr (fun t ht hW => ⟨z_9, rfl, (by unfold kJi; rw [if_neg (by decide), if_neg (by decide), if_neg (by decide), if_neg (by decide), if_neg (by decide), if_neg (by decide), if_neg (by decide), if_neg (by decide)]; subst_vars; exact Int32.toInt_toInt64 _), ht⟩) (fun _ h => nomatch h) dX5_join_189
  · refine lv_tableIn (tgt := 128) hx hb dX5_join_1 (by decide) (by decide) rfl (by decide) ?_
    refine lv_iload_n hx hb dX5_join_128 rfl (lv_at hl 1 rfl) ?_
    obtain ⟨z_10, ez_10⟩ : ∃ z : Int64, z = Int32.toInt64 p1 := ⟨_, rfl⟩
    refine lv_i2l (v := z_10) hx hb dX5_join_129 ez_10.symm ?_
    refine lv_iload_n hx hb dX5_join_130 rfl (lv_at hl 2 rfl) ?_
    obtain ⟨z_11, ez_11⟩ : ∃ z : Int64, z = Int32.toInt64 p2 := ⟨_, rfl⟩
    refine lv_i2l (v := z_11) hx hb dX5_join_131 ez_11.symm ?_
    refine lv_lmul hx hb dX5_join_132 ?_
    refine lv_topl (fun z_12 ez_12 => ?_)
    rw [hQ]
    exact W.lret (v := z_12) hx hb hr (fun t ht hW => ⟨z_12, rfl, (by unfold kJi; rw [if_neg (by decide), if_neg (by decide), if_pos rfl]; subst_vars; exact kL_mul _ _), ht⟩) (fun _ h => nomatch h) dX5_join_133
  · refine lv_tableIn (tgt := 116) hx hb dX5_join_1 (by decide) (by decide) rfl (by decide) ?_
    refine lv_iload_n hx hb dX5_join_116 rfl (lv_at hl 1 rfl) ?_
    obtain ⟨z_13, ez_13⟩ : ∃ z : Int64, z = Int32.toInt64 p1 := ⟨_, rfl⟩
    refine lv_i2l (v := z_13) hx hb dX5_join_117 ez_13.symm ?_
    refine lv_iload_n hx hb dX5_join_118 rfl (lv_at hl 2 rfl) ?_
    obtain ⟨z_14, ez_14⟩ : ∃ z : Int64, z = Int32.toInt64 p2 := ⟨_, rfl⟩
    refine lv_i2l (v := z_14) hx hb dX5_join_119 ez_14.symm ?_
    refine lv_ladd hx hb dX5_join_120 ?_
    refine lv_topl (fun z_15 ez_15 => ?_)
    rw [hQ]
    exact W.lret (v := z_15) hx hb hr (fun t ht hW => ⟨z_15, rfl, (by unfold kJi; rw [if_pos rfl]; subst_vars; exact kL_add _ _), ht⟩) (fun _ h => nomatch h) dX5_join_121
  · refine lv_tableIn (tgt := 185) hx hb dX5_join_1 (by decide) (by decide) rfl (by decide) ?_
    refine lv_iload_n hx hb dX5_join_185 rfl (lv_at hl 1 rfl) ?_
    refine lv_iload_n hx hb dX5_join_186 rfl (lv_at hl 2 rfl) ?_
    refine lv_ior hx hb dX5_join_187 ?_
    refine lv_topi (fun x_16 ex_16 => ?_)
    obtain ⟨z_17, ez_17⟩ : ∃ z : Int64, z = Int32.toInt64 x_16 := ⟨_, rfl⟩
    refine lv_i2l (v := z_17) hx hb dX5_join_188 ez_17.symm ?_
    rw [hQ]
    exact W.lret (v := z_17) hx hb hr (fun t ht hW => ⟨z_17, rfl, (by unfold kJi; rw [if_neg (by decide), if_neg (by decide), if_neg (by decide), if_neg (by decide), if_neg (by decide), if_neg (by decide), if_neg (by decide), if_neg (by decide)]; subst_vars; exact Int32.toInt_toInt64 _), ht⟩) (fun _ h => nomatch h) dX5_join_189
  · refine lv_tableIn (tgt := 122) hx hb dX5_join_1 (by decide) (by decide) rfl (by decide) ?_
    refine lv_iload_n hx hb dX5_join_122 rfl (lv_at hl 1 rfl) ?_
    obtain ⟨z_18, ez_18⟩ : ∃ z : Int64, z = Int32.toInt64 p1 := ⟨_, rfl⟩
    refine lv_i2l (v := z_18) hx hb dX5_join_123 ez_18.symm ?_
    refine lv_iload_n hx hb dX5_join_124 rfl (lv_at hl 2 rfl) ?_
    obtain ⟨z_19, ez_19⟩ : ∃ z : Int64, z = Int32.toInt64 p2 := ⟨_, rfl⟩
    refine lv_i2l (v := z_19) hx hb dX5_join_125 ez_19.symm ?_
    refine lv_lsub hx hb dX5_join_126 ?_
    refine lv_topl (fun z_20 ez_20 => ?_)
    rw [hQ]
    exact W.lret (v := z_20) hx hb hr (fun t ht hW => ⟨z_20, rfl, (by unfold kJi; rw [if_neg (by decide), if_pos rfl]; subst_vars; exact kL_sub _ _), ht⟩) (fun _ h => nomatch h) dX5_join_127
  · refine lv_tableIn (tgt := 185) hx hb dX5_join_1 (by decide) (by decide) rfl (by decide) ?_
    refine lv_iload_n hx hb dX5_join_185 rfl (lv_at hl 1 rfl) ?_
    refine lv_iload_n hx hb dX5_join_186 rfl (lv_at hl 2 rfl) ?_
    refine lv_ior hx hb dX5_join_187 ?_
    refine lv_topi (fun x_21 ex_21 => ?_)
    obtain ⟨z_22, ez_22⟩ : ∃ z : Int64, z = Int32.toInt64 x_21 := ⟨_, rfl⟩
    refine lv_i2l (v := z_22) hx hb dX5_join_188 ez_22.symm ?_
    rw [hQ]
    exact W.lret (v := z_22) hx hb hr (fun t ht hW => ⟨z_22, rfl, (by unfold kJi; rw [if_neg (by decide), if_neg (by decide), if_neg (by decide), if_neg (by decide), if_neg (by decide), if_neg (by decide), if_neg (by decide), if_neg (by decide)]; subst_vars; exact Int32.toInt_toInt64 _), ht⟩) (fun _ h => nomatch h) dX5_join_189
  · refine lv_tableIn (tgt := 134) hx hb dX5_join_1 (by decide) (by decide) rfl (by decide) ?_
    refine lv_iload_n hx hb dX5_join_134 rfl (lv_at hl 2 rfl) ?_
    refine lv_if_ne (tgt := 142) hx hb dX5_join_135 kc_t_135_7 (fun c_23 => ?_) (fun c_23 => ?_)
    · refine lv_iload_n hx hb dX5_join_142 rfl (lv_at hl 1 rfl) ?_
      refine lv_iload_n hx hb dX5_join_143 rfl (lv_at hl 2 rfl) ?_
      refine lv_idiv hx hb dX5_join_144 (by assumption) ?_
      refine lv_topi (fun x_24 ex_24 => ?_)
      obtain ⟨z_25, ez_25⟩ : ∃ z : Int64, z = Int32.toInt64 x_24 := ⟨_, rfl⟩
      refine lv_i2l (v := z_25) hx hb dX5_join_145 ez_25.symm ?_
      rw [hQ]
      exact W.lret (v := z_25) hx hb hr (fun t ht hW => ⟨z_25, rfl, (by unfold kJi; rw [if_neg (by decide), if_neg (by decide), if_neg (by decide), if_pos rfl, if_neg c_23]; subst_vars; exact Int32.toInt_toInt64 _), ht⟩) (fun _ h => nomatch h) dX5_join_146
    · refine lv_lconst (v := 0) hx hb dX5_join_138 (by decide) ?_
      refine lv_goto (tgt := 146) hx hb dX5_join_139 kc_t_139_7 ?_
      rw [hQ]
      exact W.lret (v := 0) hx hb hr (fun t ht hW => ⟨0, rfl, (by unfold kJi; rw [if_neg (by decide), if_neg (by decide), if_neg (by decide), if_pos rfl, if_pos c_23]; rfl), ht⟩) (fun _ h => nomatch h) dX5_join_146
  · refine lv_tableIn (tgt := 185) hx hb dX5_join_1 (by decide) (by decide) rfl (by decide) ?_
    refine lv_iload_n hx hb dX5_join_185 rfl (lv_at hl 1 rfl) ?_
    refine lv_iload_n hx hb dX5_join_186 rfl (lv_at hl 2 rfl) ?_
    refine lv_ior hx hb dX5_join_187 ?_
    refine lv_topi (fun x_26 ex_26 => ?_)
    obtain ⟨z_27, ez_27⟩ : ∃ z : Int64, z = Int32.toInt64 x_26 := ⟨_, rfl⟩
    refine lv_i2l (v := z_27) hx hb dX5_join_188 ez_27.symm ?_
    rw [hQ]
    exact W.lret (v := z_27) hx hb hr (fun t ht hW => ⟨z_27, rfl, (by unfold kJi; rw [if_neg (by decide), if_neg (by decide), if_neg (by decide), if_neg (by decide), if_neg (by decide), if_neg (by decide), if_neg (by decide), if_neg (by decide)]; subst_vars; exact Int32.toInt_toInt64 _), ht⟩) (fun _ h => nomatch h) dX5_join_189
  · refine lv_tableIn (tgt := 185) hx hb dX5_join_1 (by decide) (by decide) rfl (by decide) ?_
    refine lv_iload_n hx hb dX5_join_185 rfl (lv_at hl 1 rfl) ?_
    refine lv_iload_n hx hb dX5_join_186 rfl (lv_at hl 2 rfl) ?_
    refine lv_ior hx hb dX5_join_187 ?_
    refine lv_topi (fun x_28 ex_28 => ?_)
    obtain ⟨z_29, ez_29⟩ : ∃ z : Int64, z = Int32.toInt64 x_28 := ⟨_, rfl⟩
    refine lv_i2l (v := z_29) hx hb dX5_join_188 ez_29.symm ?_
    rw [hQ]
    exact W.lret (v := z_29) hx hb hr (fun t ht hW => ⟨z_29, rfl, (by unfold kJi; rw [if_neg (by decide), if_neg (by decide), if_neg (by decide), if_neg (by decide), if_neg (by decide), if_neg (by decide), if_neg (by decide), if_neg (by decide)]; subst_vars; exact Int32.toInt_toInt64 _), ht⟩) (fun _ h => nomatch h) dX5_join_189
  · refine lv_tableIn (tgt := 185) hx hb dX5_join_1 (by decide) (by decide) rfl (by decide) ?_
    refine lv_iload_n hx hb dX5_join_185 rfl (lv_at hl 1 rfl) ?_
    refine lv_iload_n hx hb dX5_join_186 rfl (lv_at hl 2 rfl) ?_
    refine lv_ior hx hb dX5_join_187 ?_
    refine lv_topi (fun x_30 ex_30 => ?_)
    obtain ⟨z_31, ez_31⟩ : ∃ z : Int64, z = Int32.toInt64 x_30 := ⟨_, rfl⟩
    refine lv_i2l (v := z_31) hx hb dX5_join_188 ez_31.symm ?_
    rw [hQ]
    exact W.lret (v := z_31) hx hb hr (fun t ht hW => ⟨z_31, rfl, (by unfold kJi; rw [if_neg (by decide), if_neg (by decide), if_neg (by decide), if_neg (by decide), if_neg (by decide), if_neg (by decide), if_neg (by decide), if_neg (by decide)]; subst_vars; exact Int32.toInt_toInt64 _), ht⟩) (fun _ h => nomatch h) dX5_join_189
  · refine lv_tableIn (tgt := 185) hx hb dX5_join_1 (by decide) (by decide) rfl (by decide) ?_
    refine lv_iload_n hx hb dX5_join_185 rfl (lv_at hl 1 rfl) ?_
    refine lv_iload_n hx hb dX5_join_186 rfl (lv_at hl 2 rfl) ?_
    refine lv_ior hx hb dX5_join_187 ?_
    refine lv_topi (fun x_32 ex_32 => ?_)
    obtain ⟨z_33, ez_33⟩ : ∃ z : Int64, z = Int32.toInt64 x_32 := ⟨_, rfl⟩
    refine lv_i2l (v := z_33) hx hb dX5_join_188 ez_33.symm ?_
    rw [hQ]
    exact W.lret (v := z_33) hx hb hr (fun t ht hW => ⟨z_33, rfl, (by unfold kJi; rw [if_neg (by decide), if_neg (by decide), if_neg (by decide), if_neg (by decide), if_neg (by decide), if_neg (by decide), if_neg (by decide), if_neg (by decide)]; subst_vars; exact Int32.toInt_toInt64 _), ht⟩) (fun _ h => nomatch h) dX5_join_189
  · refine lv_tableIn (tgt := 185) hx hb dX5_join_1 (by decide) (by decide) rfl (by decide) ?_
    refine lv_iload_n hx hb dX5_join_185 rfl (lv_at hl 1 rfl) ?_
    refine lv_iload_n hx hb dX5_join_186 rfl (lv_at hl 2 rfl) ?_
    refine lv_ior hx hb dX5_join_187 ?_
    refine lv_topi (fun x_34 ex_34 => ?_)
    obtain ⟨z_35, ez_35⟩ : ∃ z : Int64, z = Int32.toInt64 x_34 := ⟨_, rfl⟩
    refine lv_i2l (v := z_35) hx hb dX5_join_188 ez_35.symm ?_
    rw [hQ]
    exact W.lret (v := z_35) hx hb hr (fun t ht hW => ⟨z_35, rfl, (by unfold kJi; rw [if_neg (by decide), if_neg (by decide), if_neg (by decide), if_neg (by decide), if_neg (by decide), if_neg (by decide), if_neg (by decide), if_neg (by decide)]; subst_vars; exact Int32.toInt_toInt64 _), ht⟩) (fun _ h => nomatch h) dX5_join_189
  · refine lv_tableIn (tgt := 185) hx hb dX5_join_1 (by decide) (by decide) rfl (by decide) ?_
    refine lv_iload_n hx hb dX5_join_185 rfl (lv_at hl 1 rfl) ?_
    refine lv_iload_n hx hb dX5_join_186 rfl (lv_at hl 2 rfl) ?_
    refine lv_ior hx hb dX5_join_187 ?_
    refine lv_topi (fun x_36 ex_36 => ?_)
    obtain ⟨z_37, ez_37⟩ : ∃ z : Int64, z = Int32.toInt64 x_36 := ⟨_, rfl⟩
    refine lv_i2l (v := z_37) hx hb dX5_join_188 ez_37.symm ?_
    rw [hQ]
    exact W.lret (v := z_37) hx hb hr (fun t ht hW => ⟨z_37, rfl, (by unfold kJi; rw [if_neg (by decide), if_neg (by decide), if_neg (by decide), if_neg (by decide), if_neg (by decide), if_neg (by decide), if_neg (by decide), if_neg (by decide)]; subst_vars; exact Int32.toInt_toInt64 _), ht⟩) (fun _ h => nomatch h) dX5_join_189
  · refine lv_tableIn (tgt := 185) hx hb dX5_join_1 (by decide) (by decide) rfl (by decide) ?_
    refine lv_iload_n hx hb dX5_join_185 rfl (lv_at hl 1 rfl) ?_
    refine lv_iload_n hx hb dX5_join_186 rfl (lv_at hl 2 rfl) ?_
    refine lv_ior hx hb dX5_join_187 ?_
    refine lv_topi (fun x_38 ex_38 => ?_)
    obtain ⟨z_39, ez_39⟩ : ∃ z : Int64, z = Int32.toInt64 x_38 := ⟨_, rfl⟩
    refine lv_i2l (v := z_39) hx hb dX5_join_188 ez_39.symm ?_
    rw [hQ]
    exact W.lret (v := z_39) hx hb hr (fun t ht hW => ⟨z_39, rfl, (by unfold kJi; rw [if_neg (by decide), if_neg (by decide), if_neg (by decide), if_neg (by decide), if_neg (by decide), if_neg (by decide), if_neg (by decide), if_neg (by decide)]; subst_vars; exact Int32.toInt_toInt64 _), ht⟩) (fun _ h => nomatch h) dX5_join_189
  · refine lv_tableIn (tgt := 185) hx hb dX5_join_1 (by decide) (by decide) rfl (by decide) ?_
    refine lv_iload_n hx hb dX5_join_185 rfl (lv_at hl 1 rfl) ?_
    refine lv_iload_n hx hb dX5_join_186 rfl (lv_at hl 2 rfl) ?_
    refine lv_ior hx hb dX5_join_187 ?_
    refine lv_topi (fun x_40 ex_40 => ?_)
    obtain ⟨z_41, ez_41⟩ : ∃ z : Int64, z = Int32.toInt64 x_40 := ⟨_, rfl⟩
    refine lv_i2l (v := z_41) hx hb dX5_join_188 ez_41.symm ?_
    rw [hQ]
    exact W.lret (v := z_41) hx hb hr (fun t ht hW => ⟨z_41, rfl, (by unfold kJi; rw [if_neg (by decide), if_neg (by decide), if_neg (by decide), if_neg (by decide), if_neg (by decide), if_neg (by decide), if_neg (by decide), if_neg (by decide)]; subst_vars; exact Int32.toInt_toInt64 _), ht⟩) (fun _ h => nomatch h) dX5_join_189
  · refine lv_tableIn (tgt := 185) hx hb dX5_join_1 (by decide) (by decide) rfl (by decide) ?_
    refine lv_iload_n hx hb dX5_join_185 rfl (lv_at hl 1 rfl) ?_
    refine lv_iload_n hx hb dX5_join_186 rfl (lv_at hl 2 rfl) ?_
    refine lv_ior hx hb dX5_join_187 ?_
    refine lv_topi (fun x_42 ex_42 => ?_)
    obtain ⟨z_43, ez_43⟩ : ∃ z : Int64, z = Int32.toInt64 x_42 := ⟨_, rfl⟩
    refine lv_i2l (v := z_43) hx hb dX5_join_188 ez_43.symm ?_
    rw [hQ]
    exact W.lret (v := z_43) hx hb hr (fun t ht hW => ⟨z_43, rfl, (by unfold kJi; rw [if_neg (by decide), if_neg (by decide), if_neg (by decide), if_neg (by decide), if_neg (by decide), if_neg (by decide), if_neg (by decide), if_neg (by decide)]; subst_vars; exact Int32.toInt_toInt64 _), ht⟩) (fun _ h => nomatch h) dX5_join_189
  · refine lv_tableIn (tgt := 185) hx hb dX5_join_1 (by decide) (by decide) rfl (by decide) ?_
    refine lv_iload_n hx hb dX5_join_185 rfl (lv_at hl 1 rfl) ?_
    refine lv_iload_n hx hb dX5_join_186 rfl (lv_at hl 2 rfl) ?_
    refine lv_ior hx hb dX5_join_187 ?_
    refine lv_topi (fun x_44 ex_44 => ?_)
    obtain ⟨z_45, ez_45⟩ : ∃ z : Int64, z = Int32.toInt64 x_44 := ⟨_, rfl⟩
    refine lv_i2l (v := z_45) hx hb dX5_join_188 ez_45.symm ?_
    rw [hQ]
    exact W.lret (v := z_45) hx hb hr (fun t ht hW => ⟨z_45, rfl, (by unfold kJi; rw [if_neg (by decide), if_neg (by decide), if_neg (by decide), if_neg (by decide), if_neg (by decide), if_neg (by decide), if_neg (by decide), if_neg (by decide)]; subst_vars; exact Int32.toInt_toInt64 _), ht⟩) (fun _ h => nomatch h) dX5_join_189
  · refine lv_tableIn (tgt := 185) hx hb dX5_join_1 (by decide) (by decide) rfl (by decide) ?_
    refine lv_iload_n hx hb dX5_join_185 rfl (lv_at hl 1 rfl) ?_
    refine lv_iload_n hx hb dX5_join_186 rfl (lv_at hl 2 rfl) ?_
    refine lv_ior hx hb dX5_join_187 ?_
    refine lv_topi (fun x_46 ex_46 => ?_)
    obtain ⟨z_47, ez_47⟩ : ∃ z : Int64, z = Int32.toInt64 x_46 := ⟨_, rfl⟩
    refine lv_i2l (v := z_47) hx hb dX5_join_188 ez_47.symm ?_
    rw [hQ]
    exact W.lret (v := z_47) hx hb hr (fun t ht hW => ⟨z_47, rfl, (by unfold kJi; rw [if_neg (by decide), if_neg (by decide), if_neg (by decide), if_neg (by decide), if_neg (by decide), if_neg (by decide), if_neg (by decide), if_neg (by decide)]; subst_vars; exact Int32.toInt_toInt64 _), ht⟩) (fun _ h => nomatch h) dX5_join_189
  · refine lv_tableIn (tgt := 185) hx hb dX5_join_1 (by decide) (by decide) rfl (by decide) ?_
    refine lv_iload_n hx hb dX5_join_185 rfl (lv_at hl 1 rfl) ?_
    refine lv_iload_n hx hb dX5_join_186 rfl (lv_at hl 2 rfl) ?_
    refine lv_ior hx hb dX5_join_187 ?_
    refine lv_topi (fun x_48 ex_48 => ?_)
    obtain ⟨z_49, ez_49⟩ : ∃ z : Int64, z = Int32.toInt64 x_48 := ⟨_, rfl⟩
    refine lv_i2l (v := z_49) hx hb dX5_join_188 ez_49.symm ?_
    rw [hQ]
    exact W.lret (v := z_49) hx hb hr (fun t ht hW => ⟨z_49, rfl, (by unfold kJi; rw [if_neg (by decide), if_neg (by decide), if_neg (by decide), if_neg (by decide), if_neg (by decide), if_neg (by decide), if_neg (by decide), if_neg (by decide)]; subst_vars; exact Int32.toInt_toInt64 _), ht⟩) (fun _ h => nomatch h) dX5_join_189
  · refine lv_tableIn (tgt := 158) hx hb dX5_join_1 (by decide) (by decide) rfl (by decide) ?_
    refine lv_iload_n hx hb dX5_join_158 rfl (lv_at hl 1 rfl) ?_
    refine lv_iload_n hx hb dX5_join_159 rfl (lv_at hl 2 rfl) ?_
    refine lv_icmp_ge (tgt := 167) hx hb dX5_join_160 kc_t_160_7 (fun c_50 => ?_) (fun c_50 => ?_)
    · refine lv_lconst (v := 0) hx hb dX5_join_167 (by decide) ?_
      rw [hQ]
      exact W.lret (v := 0) hx hb hr (fun t ht hW => ⟨0, rfl, (by unfold kJi; rw [if_neg (by decide), if_neg (by decide), if_neg (by decide), if_neg (by decide), if_neg (by decide), if_pos rfl, if_neg (Int32.not_lt.mpr c_50)]; rfl), ht⟩) (fun _ h => nomatch h) dX5_join_168
    · refine lv_lconst (v := 1) hx hb dX5_join_163 (by decide) ?_
      refine lv_goto (tgt := 168) hx hb dX5_join_164 kc_t_164_4 ?_
      rw [hQ]
      exact W.lret (v := 1) hx hb hr (fun t ht hW => ⟨1, rfl, (by unfold kJi; rw [if_neg (by decide), if_neg (by decide), if_neg (by decide), if_neg (by decide), if_neg (by decide), if_pos rfl, if_pos (Int32.not_le.mp c_50)]; rfl), ht⟩) (fun _ h => nomatch h) dX5_join_168
  · refine lv_tableIn (tgt := 147) hx hb dX5_join_1 (by decide) (by decide) rfl (by decide) ?_
    refine lv_iload_n hx hb dX5_join_147 rfl (lv_at hl 1 rfl) ?_
    refine lv_iload_n hx hb dX5_join_148 rfl (lv_at hl 2 rfl) ?_
    refine lv_icmp_ne (tgt := 156) hx hb dX5_join_149 kc_t_149_7 (fun c_51 => ?_) (fun c_51 => ?_)
    · refine lv_lconst (v := 0) hx hb dX5_join_156 (by decide) ?_
      rw [hQ]
      exact W.lret (v := 0) hx hb hr (fun t ht hW => ⟨0, rfl, (by unfold kJi; rw [if_neg (by decide), if_neg (by decide), if_neg (by decide), if_neg (by decide), if_pos rfl, if_neg c_51]; rfl), ht⟩) (fun _ h => nomatch h) dX5_join_157
    · refine lv_lconst (v := 1) hx hb dX5_join_152 (by decide) ?_
      refine lv_goto (tgt := 157) hx hb dX5_join_153 kc_t_153_4 ?_
      rw [hQ]
      exact W.lret (v := 1) hx hb hr (fun t ht hW => ⟨1, rfl, (by unfold kJi; rw [if_neg (by decide), if_neg (by decide), if_neg (by decide), if_neg (by decide), if_pos rfl, if_pos c_51]; rfl), ht⟩) (fun _ h => nomatch h) dX5_join_157
  · refine lv_tableIn (tgt := 169) hx hb dX5_join_1 (by decide) (by decide) rfl (by decide) ?_
    refine lv_iload_n hx hb dX5_join_169 rfl (lv_at hl 1 rfl) ?_
    refine lv_iload_n hx hb dX5_join_170 rfl (lv_at hl 2 rfl) ?_
    refine lv_icmp_le (tgt := 178) hx hb dX5_join_171 kc_t_171_7 (fun c_52 => ?_) (fun c_52 => ?_)
    · refine lv_lconst (v := 0) hx hb dX5_join_178 (by decide) ?_
      rw [hQ]
      exact W.lret (v := 0) hx hb hr (fun t ht hW => ⟨0, rfl, (by unfold kJi; rw [if_neg (by decide), if_neg (by decide), if_neg (by decide), if_neg (by decide), if_neg (by decide), if_neg (by decide), if_pos rfl, if_neg (Int32.not_lt.mpr c_52)]; rfl), ht⟩) (fun _ h => nomatch h) dX5_join_179
    · refine lv_lconst (v := 1) hx hb dX5_join_174 (by decide) ?_
      refine lv_goto (tgt := 179) hx hb dX5_join_175 kc_t_175_4 ?_
      rw [hQ]
      exact W.lret (v := 1) hx hb hr (fun t ht hW => ⟨1, rfl, (by unfold kJi; rw [if_neg (by decide), if_neg (by decide), if_neg (by decide), if_neg (by decide), if_neg (by decide), if_neg (by decide), if_pos rfl, if_pos (Int32.not_le.mp c_52)]; rfl), ht⟩) (fun _ h => nomatch h) dX5_join_179
  · refine lv_tableOut (tgt := 185) hx hb dX5_join_1 h_1 (by decide) ?_
    refine lv_iload_n hx hb dX5_join_185 rfl (lv_at hl 1 rfl) ?_
    refine lv_iload_n hx hb dX5_join_186 rfl (lv_at hl 2 rfl) ?_
    refine lv_ior hx hb dX5_join_187 ?_
    refine lv_topi (fun x_53 ex_53 => ?_)
    obtain ⟨z_54, ez_54⟩ : ∃ z : Int64, z = Int32.toInt64 x_53 := ⟨_, rfl⟩
    refine lv_i2l (v := z_54) hx hb dX5_join_188 ez_54.symm ?_
    rw [hQ]
    exact W.lret (v := z_54) hx hb hr (fun t ht hW => ⟨z_54, rfl, (by unfold kJi; rw [if_neg (fun z => by rw [z] at h_1; revert h_1; decide), if_neg (fun z => by rw [z] at h_1; revert h_1; decide), if_neg (fun z => by rw [z] at h_1; revert h_1; decide), if_neg (fun z => by rw [z] at h_1; revert h_1; decide), if_neg (fun z => by rw [z] at h_1; revert h_1; decide), if_neg (fun z => by rw [z] at h_1; revert h_1; decide), if_neg (fun z => by rw [z] at h_1; revert h_1; decide), if_neg (fun z => by rw [z] at h_1; revert h_1; decide)]; subst_vars; exact Int32.toInt_toInt64 _), ht⟩) (fun _ h => nomatch h) dX5_join_189

def w_s_bounded5x : List Cond := .code yX5_bounded cX5_bounded 2 (some .int) :: ([.constantLong RX5 48 (1000000), .constantLong RX5 51 (-1000000), .constant RX5 53 (-1000000), .constant RX5 50 (1000000)] ++ [])
theorem gw_s_bounded5x : (w_s_bounded5x).all goodWord = true := kGc rfl (kGa (by decide +kernel) kGn)
set_option maxHeartbeats 4000000 in
set_option maxRecDepth 100000 in
theorem s_bounded5x (l : Launch) (dC : Nat → ClassId) (dI : Nat → Nat → Nat) (p0 : Int64) : Met l yX5_bounded w_s_bounded5x ({ frames := 1, cells := 0, slots := 0, locals := 60 }) (kR dC dI [.long p0] [] [] kT) (vp_Si (fun r : Int32 => r = kClm (Int64.toInt p0))) 0 0 (fun _ => False) := by
  refine Met.ofW (cc := cX5_bounded) (maxL := 2) (ret := (some .int)) (by decide) rfl ?_
  intro p e s m args below meth c s₁ B hml hv
  obtain ⟨rfl, hP, hK, hX⟩ := hv
  have hx := B.exec
  have hb := B.bytes
  have hr := B.returns
  have hts := atoms_spec (ws := w_s_bounded5x) B.pre
  have hown : s.vm.findClass RX5 = some m.cls := findClass_of_methodNamed B.named
  have hlocks := B.notSynchronized
  have hP : va_P (dC, dI) vwCl [] s.heap := hP
  have hl := lv_entry ([.long p0]) (n := 2) (Nat.le_of_ble_eq_true rfl)
  rw [lg_entry_eq]
  generalize (lg_sl ([.long p0]) ++ List.replicate (2 - (lg_sl ([.long p0])).length) Slot.unset).toArray = ls at hl ⊢
  have hl : lv_has ls 2 [(0, .long p0)] := hl
  refine kQ (fun Q hQ => ?_)
  refine lv_lload_n hx hb dX5_bounded_0 rfl (lv_at hl 0 rfl) ?_
  refine lv_ldc2 (v := 1000000) hx hb hown (hts (.constantLong RX5 48 (1000000)) (List.mem_cons_of_mem _ (List.mem_append_left _ (List.mem_of_getElem? (i := 0) rfl)))) dX5_bounded_1 ?_
  refine W.lcmp hx hb dX5_bounded_4 ?_
  refine lv_topi (fun x_1 ex_1 => ?_)
  refine lv_if_le (tgt := 11) hx hb dX5_bounded_5 kc_t_5_6 (fun c_2 => ?_) (fun c_2 => ?_)
  · refine lv_lload_n hx hb dX5_bounded_11 rfl (lv_at hl 0 rfl) ?_
    refine lv_ldc2 (v := (-1000000)) hx hb hown (hts (.constantLong RX5 51 (-1000000)) (List.mem_cons_of_mem _ (List.mem_append_left _ (List.mem_of_getElem? (i := 1) rfl)))) dX5_bounded_12 ?_
    refine W.lcmp hx hb dX5_bounded_15 ?_
    refine lv_topi (fun x_3 ex_3 => ?_)
    refine lv_if_ge (tgt := 24) hx hb dX5_bounded_16 kc_t_16_8 (fun c_4 => ?_) (fun c_4 => ?_)
    · refine lv_lload_n hx hb dX5_bounded_24 rfl (lv_at hl 0 rfl) ?_
      obtain ⟨x_5, ex_5⟩ : ∃ z : Int32, z = Int64.toInt32 p0 := ⟨_, rfl⟩
      refine lv_l2i (v := x_5) hx hb dX5_bounded_25 ex_5.symm ?_
      rw [hQ]
      exact W.iret (v := x_5) hx hb hr (fun t ht hW => ⟨x_5, rfl, (by have h1 := kCmpG0 ex_1 c_2; have h2 := kCmpL0 ex_3 c_4; rw [ex_5]; exact kClm_in (by omega) (by omega)), ht⟩) (fun _ h => nomatch h) dX5_bounded_26
    · refine lv_ldc (v := (-1000000)) hx hb hown (hts (.constant RX5 53 (-1000000)) (List.mem_cons_of_mem _ (List.mem_append_left _ (List.mem_of_getElem? (i := 2) rfl)))) dX5_bounded_19 ?_
      refine lv_goto (tgt := 26) hx hb dX5_bounded_21 kc_t_21_5 ?_
      rw [hQ]
      exact W.iret (v := (-1000000)) hx hb hr (fun t ht hW => ⟨(-1000000), rfl, (by have h1 := kCmpL1 ex_3 c_4; exact (kClm_lo (by omega)).symm), ht⟩) (fun _ h => nomatch h) dX5_bounded_26
  · refine lv_ldc (v := 1000000) hx hb hown (hts (.constant RX5 50 (1000000)) (List.mem_cons_of_mem _ (List.mem_append_left _ (List.mem_of_getElem? (i := 3) rfl)))) dX5_bounded_8 ?_
    rw [hQ]
    exact W.iret (v := 1000000) hx hb hr (fun t ht hW => ⟨1000000, rfl, (by have h1 := kCmpG1 ex_1 c_2; exact (kClm_hi (by omega)).symm), ht⟩) (fun _ h => nomatch h) dX5_bounded_10

def w_s_valueOf5x : List Cond := .code yX5_valueOf cX5_valueOf 3 (some .int) :: ([.fieldLink RX5 9 "NotEnded$Reckoner" "letters" "[I"] ++ (wsX50))
theorem gw_s_valueOf5x : (w_s_valueOf5x).all goodWord = true := kGc rfl (kGa (by decide +kernel) gw_wsX50)
set_option maxHeartbeats 4000000 in
set_option maxRecDepth 100000 in
theorem s_valueOf5x (l : Launch) (dC : Nat → ClassId) (dI : Nat → Nat → Nat) (jK : Nat) (k0 : Nat) (k1 : Nat) (cK : ClassId) (cO : ClassId) (l0 : Nat → Int32) (l1 : Nat → Int32) (p0 : Int32) : Met l yX5_valueOf w_s_valueOf5x ({ frames := 1, cells := 0, slots := 0, locals := 60 }) (kR dC dI [.ref jK, .int p0] [(jK, .inr (5, [.ref k0, .ref k1])), (k0, .inl (cK, 8, .inl l0)), (k1, .inl (cO, 32, .inl l1))] [(cK, .int), (cO, .int)] kT) (vp_Si (fun r : Int32 => r = kStv l0 p0)) 0 0 (fun _ => False) := by
  refine Met.ofW (cc := cX5_valueOf) (maxL := 3) (ret := (some .int)) (by decide) rfl ?_
  intro p e s m args below meth c s₁ B hml hv
  obtain ⟨rfl, hP, hK, hX⟩ := hv
  have hx := B.exec
  have hb := B.bytes
  have hr := B.returns
  have hts := atoms_spec (ws := w_s_valueOf5x) B.pre
  have hown : s.vm.findClass RX5 = some m.cls := findClass_of_methodNamed B.named
  have hlocks := B.notSynchronized
  have hP : va_P (dC, dI) vwCl [(jK, .inr (5, [.ref k0, .ref k1])), (k0, .inl (cK, 8, .inl l0)), (k1, .inl (cO, 32, .inl l1))] s.heap := hP
  have hl := lv_entry ([.ref jK, .int p0]) (n := 3) (Nat.le_of_ble_eq_true rfl)
  rw [lg_entry_eq]
  generalize (lg_sl ([.ref jK, .int p0]) ++ List.replicate (3 - (lg_sl ([.ref jK, .int p0])).length) Slot.unset).toArray = ls at hl ⊢
  have hl : lv_has ls 3 [(0, .ref jK), (1, .int p0)] := hl
  refine kQ (fun Q hQ => ?_)
  refine lv_iload_n hx hb dX5_valueOf_0 rfl (lv_at hl 1 rfl) ?_
  refine lv_sipush (v := 10000) hx hb dX5_valueOf_1 kc_s_10000 ?_
  refine lv_isub hx hb dX5_valueOf_4 ?_
  refine lv_topi (fun x_1 ex_1 => ?_)
  refine lv_istore_n hx hb dX5_valueOf_5 rfl hl kc_l_2_3 (kTo [(2, .int x_1), (0, .ref jK), (1, .int p0)]) (fun ls hl => ?_)
  refine lv_iload_n hx hb dX5_valueOf_6 rfl (lv_at hl 0 rfl) ?_
  refine lv_if_lt (tgt := 28) hx hb dX5_valueOf_7 kc_t_7_21 (fun c_2 => ?_) (fun c_2 => ?_)
  · refine lv_iload_n hx hb dX5_valueOf_28 rfl (lv_at hl 2 rfl) ?_
    rw [hQ]
    exact W.iret (v := p0) hx hb hr (fun t ht hW => ⟨p0, rfl, (by unfold kStv; rw [← ex_1, if_pos c_2]), ht⟩) (fun _ h => nomatch h) dX5_valueOf_29
  · refine lv_iload_n hx hb dX5_valueOf_10 rfl (lv_at hl 0 rfl) ?_
    refine lv_aload_n hx hb dX5_valueOf_11 rfl (lv_at hl 1 rfl) ?_
    refine va_get (D := (dC, dI)) (ci := 5) (v := .ref k0) (C := RX5) (T := TX5) (N := 2) hx hb hts (fun _ h => List.mem_cons_of_mem _ (List.mem_append_right _ h)) hown hK hP 0 rfl rfl 0 kc_l_0_2 (hts (.fieldLink RX5 9 "NotEnded$Reckoner" "letters" "[I") (List.mem_cons_of_mem _ (List.mem_append_left _ (List.mem_of_getElem? (i := 0) rfl)))) (fun _ h9 => h9) rfl dX5_valueOf_12 ?_
    refine va_alen hx hb hK hP 1 0 rfl rfl (v := 8) rfl dX5_valueOf_15 ?_
    refine lv_icmp_ge (tgt := 28) hx hb dX5_valueOf_16 kc_t_16_12 (fun c_3 => ?_) (fun c_3 => ?_)
    · refine lv_iload_n hx hb dX5_valueOf_28 rfl (lv_at hl 2 rfl) ?_
      rw [hQ]
      exact W.iret (v := p0) hx hb hr (fun t ht hW => ⟨p0, rfl, (by unfold kStv; rw [← ex_1, if_neg c_2, if_neg (Int32.not_lt.mpr c_3)]), ht⟩) (fun _ h => nomatch h) dX5_valueOf_29
    · refine lv_aload_n hx hb dX5_valueOf_19 rfl (lv_at hl 1 rfl) ?_
      refine va_get (D := (dC, dI)) (ci := 5) (v := .ref k0) (C := RX5) (T := TX5) (N := 2) hx hb hts (fun _ h => List.mem_cons_of_mem _ (List.mem_append_right _ h)) hown hK hP 0 rfl rfl 0 kc_l_0_2 (hts (.fieldLink RX5 9 "NotEnded$Reckoner" "letters" "[I") (List.mem_cons_of_mem _ (List.mem_append_left _ (List.mem_of_getElem? (i := 0) rfl)))) (fun _ h9 => h9) rfl dX5_valueOf_20 ?_
      refine lv_iload_n hx hb dX5_valueOf_23 rfl (lv_at hl 0 rfl) ?_
      have hin9 : vp_in x_1 8 := kIn8 c_2 c_3
      refine va_iald hx hb hK hP 1 0 rfl rfl (by assumption) dX5_valueOf_24 ?_
      refine lv_topi (fun x_4 ex_4 => ?_)
      refine lv_goto (tgt := 29) hx hb dX5_valueOf_25 kc_t_25_4 ?_
      rw [hQ]
      exact W.iret (v := x_4) hx hb hr (fun t ht hW => ⟨x_4, rfl, (by unfold kStv; rw [← ex_1, if_neg c_2, if_pos (Int32.not_le.mp c_3)]; exact ex_4), ht⟩) (fun _ h => nomatch h) dX5_valueOf_29

def w_s_reckon5x : List Cond := .code yX5_reckon cX5_reckon 7 (some .int) :: ([.methodLink RX5 30 Lib.Math.max.name, .static Lib.Math.max.name, .initialized RJ9, .code Lib.Math.max.name Lib.Math.max.code 2 (some .int), .fieldLink RX5 15 "NotEnded$Reckoner" "open" "[I", .initialized RX5, .static yX5_join, .methodLink RX5 40 yX5_join, .static yX5_bounded, .methodLink RX5 44 yX5_bounded, .selects RX5 yX5_valueOf yX5_valueOf, .instanceMethod yX5_valueOf, .methodLink RX5 36 yX5_valueOf] ++ (wsX50 ++ (w_s_join5x ++ (w_s_bounded5x ++ (w_s_valueOf5x)))))
theorem gw_s_reckon5x : (w_s_reckon5x).all goodWord = true := kGc rfl (kGa (by decide +kernel) (kGa gw_wsX50 (kGa gw_s_join5x (kGa gw_s_bounded5x gw_s_valueOf5x))))
set_option maxHeartbeats 4000000 in
set_option maxRecDepth 100000 in
theorem s_reckon5x (l : Launch) (dC : Nat → ClassId) (dI : Nat → Nat → Nat) (jK : Nat) (k0 : Nat) (k1 : Nat) (cK : ClassId) (cO : ClassId) (l0 : Nat → Int32) (l1 : Nat → Int32) (ru : Nat) (sA : Nat) (cl : Nat) (cS : ClassId) (cc : ClassId) (nS : Nat) (nC : Nat) (gS : Nat → Int32) (gC : Nat → Int32) (hnS : nS ≤ 200) (hnC : nC ≤ 200) (ps : Nat) (pe : Nat) (L : List Int32) (hsg : ∀ j : Nat, j < L.length → gS (ps + j) = L.getD j 0) (hpe : pe = ps + L.length) (hpn : pe ≤ nS) (hfit : kFit L 0) (hev : kEv l0 L [] = [kVal l0 L]) (sz : Nat) : Met l yX5_reckon w_s_reckon5x ({ frames := 2, cells := 0, slots := 0, locals := 120 }) (kW dC dI [.ref jK, .ref sA, .int (nI (ps)), .int (nI (pe))] [(jK, .inr (5, [.ref k0, .ref k1])), (k0, .inl (cK, 8, .inl l0)), (k1, .inl (cO, 32, .inl l1))] [(cK, .int), (cO, .int), (cS, .int), (cc, .int)] (kNF dC dI [(ru, .inr (6, [.ref sA, .ref cl])), (sA, .inl (cS, nS, .inl gS)), (cl, .inl (cc, nC, .inl gC))] (va_A [(jK, .inr (5, [.ref k0, .ref k1])), (k0, .inl (cK, 8, .inl l0)), (k1, .inl (cO, 32, .inl l1))] sz)) sz) (va_Qi (fun (r : Int32) (m1 : (Nat → Int32)) => r = kVal l0 L) (fun (m1 : (Nat → Int32)) => fun t : State => kB dC dI [(jK, .inr (5, [.ref k0, .ref k1])), (k0, .inl (cK, 8, .inl l0)), (k1, .inl (cO, 32, .inl m1))] [(cK, .int), (cO, .int), (cS, .int), (cc, .int)] (va_A [(jK, .inr (5, [.ref k0, .ref k1])), (k0, .inl (cK, 8, .inl l0)), (k1, .inl (cO, 32, .inl l1))] sz) t) (va_A [(jK, .inr (5, [.ref k0, .ref k1])), (k0, .inl (cK, 8, .inl l0)), (k1, .inl (cO, 32, .inl l1))] sz)) 0 0 (va_A [(jK, .inr (5, [.ref k0, .ref k1])), (k0, .inl (cK, 8, .inl l0)), (k1, .inl (cO, 32, .inl l1))] sz) := by
  refine Met.ofW (cc := cX5_reckon) (maxL := 7) (ret := (some .int)) (by decide) rfl ?_
  intro p e s m args below meth c s₁ B hml hv
  obtain ⟨rfl, hsz, hP, hK, hD0, hX⟩ := hv
  have hx := B.exec
  have hb := B.bytes
  have hr := B.returns
  have hts := atoms_spec (ws := w_s_reckon5x) B.pre
  have hown : s.vm.findClass RX5 = some m.cls := findClass_of_methodNamed B.named
  have hlocks := B.notSynchronized
  subst hsz
  have hD := hD0.self (sz := s.heap.size)
  generalize hAe : va_A [(jK, .inr (5, [.ref k0, .ref k1])), (k0, .inl (cK, 8, .inl l0)), (k1, .inl (cO, 32, .inl l1))] s.heap.size = A at hD hX ⊢
  have hA : ∀ q : Nat, s.heap.size ≤ q → A q := fun q h => by rw [← hAe]; exact Or.inr h
  have hS : va_S A s.heap s.heap [] := va_S.rf
  have hP : va_P (dC, dI) vwCl [(jK, .inr (5, [.ref k0, .ref k1])), (k0, .inl (cK, 8, .inl l0)), (k1, .inl (cO, 32, .inl l1))] s.heap := hP
  have hl := lv_entry ([.ref jK, .ref sA, .int (nI (ps)), .int (nI (pe))]) (n := 7) (Nat.le_of_ble_eq_true rfl)
  rw [lg_entry_eq]
  generalize (lg_sl ([.ref jK, .ref sA, .int (nI (ps)), .int (nI (pe))]) ++ List.replicate (7 - (lg_sl ([.ref jK, .ref sA, .int (nI (ps)), .int (nI (pe))])).length) Slot.unset).toArray = ls at hl ⊢
  have hl : lv_has ls 7 [(0, .ref jK), (1, .ref sA), (2, .int (nI (ps))), (3, .int (nI (pe)))] := hl
  refine kQ (fun Q hQ => ?_)
  refine lv_iconst (v := 0) hx hb dX5_reckon_0 kc_i_0 ?_
  refine lv_istore hx hb dX5_reckon_1 hl kc_l_4_7 (kTo [(4, .int 0), (0, .ref jK), (1, .ref sA), (2, .int (nI (ps))), (3, .int (nI (pe)))]) (fun ls hl => ?_)
  refine lv_iload_n hx hb dX5_reckon_3 rfl (lv_at hl 3 rfl) ?_
  refine lv_iconst (v := 0) hx hb dX5_reckon_4 kc_i_0 ?_
  refine va_mmax hx hb (hml.trans hl.1.symm) hown (hts (.methodLink RX5 30 Lib.Math.max.name) (List.mem_cons_of_mem _ (List.mem_append_left _ (List.mem_of_getElem? (i := 0) rfl)))) (hts (.static Lib.Math.max.name) (List.mem_cons_of_mem _ (List.mem_append_left _ (List.mem_of_getElem? (i := 1) rfl)))) (hts (.initialized RJ9) (List.mem_cons_of_mem _ (List.mem_append_left _ (List.mem_of_getElem? (i := 2) rfl)))) (hts (.code Lib.Math.max.name Lib.Math.max.code 2 (some .int)) (List.mem_cons_of_mem _ (List.mem_append_left _ (List.mem_of_getElem? (i := 3) rfl)))) (Nat.le_of_ble_eq_true rfl) (Nat.le_of_ble_eq_true rfl) (Nat.le_of_ble_eq_true rfl) (Nat.le_of_ble_eq_true rfl) dX5_reckon_5 ?_
  refine lv_topi (fun x_1 ex_1 => ?_)
  obtain rfl : x_1 = nI (ps) := ex_1.trans (if_neg (nI_pos (n := ps) (by omega)))
  refine lv_istore hx hb dX5_reckon_8 hl kc_l_5_7 (kTo [(5, .int (nI (ps))), (4, .int 0), (0, .ref jK), (1, .ref sA), (2, .int (nI (ps))), (3, .int (nI (pe)))]) (fun ls hl => ?_)
  have lp_k_2 : ∀ (n9 : Nat) (tp : Nat) (i : Nat) (m9 : Nat → Int32) (st9 : List Int32) (ivk_2_0 : tp ≤ 32) (ivk_2_1 : (ps ≤ i ∧ i ≤ pe)) (ivk_2_2 : st9.length = tp) (ivk_2_3 : kEv l0 (L.drop (i - ps)) st9 = kEv l0 L []) (ivk_2_4 : kFit (L.drop (i - ps)) tp) (ivk_2_5 : kStk m9 st9) (H : Heap) (locs : List Loc) (_ : va_P (dC, dI) vwCl [(jK, .inr (5, [.ref k0, .ref k1])), (k0, .inl (cK, 8, .inl l0)), (k1, .inl (cO, 32, .inl m9))] H) (_ : va_D A [(jK, .inr (5, [.ref k0, .ref k1])), (k0, .inl (cK, 8, .inl l0)), (k1, .inl (cO, 32, .inl m9))]) (_ : va_S A s.heap H locs) (ls : Array Slot) (_ : lv_has ls 7 [(5, .int (nI (i))), (4, .int (nI (tp))), (0, .ref jK), (1, .ref sA), (2, .int (nI (ps))), (3, .int (nI (pe)))]) (_ : nS - i < n9), W p l e (headSpec w_s_reckon5x ({ frames := 2, cells := 0, slots := 0, locals := 120 })).room s m (#[.ref jK, .ref sA, .int (nI (ps)), .int (nI (pe))] : Array Value) below meth c H locs 0 0 Q (F0 m 10 ls []) := by
    intro n9
    induction n9 with
    | zero => intro tp i m9 st9 ivk_2_0 ivk_2_1 ivk_2_2 ivk_2_3 ivk_2_4 ivk_2_5 H locs hP hD hS ls hl hm9; exact absurd hm9 (Nat.not_lt_zero _)
    | succ n9 ih_k_2 =>
      intro tp i m9 st9 ivk_2_0 ivk_2_1 ivk_2_2 ivk_2_3 ivk_2_4 ivk_2_5 H locs hP hD hS ls hl hm9
      refine lv_iload hx hb dX5_reckon_10 (lv_at hl 0 rfl) ?_
      refine lv_iload_n hx hb dX5_reckon_12 rfl (lv_at hl 5 rfl) ?_
      refine lv_icmp_ge (tgt := 160) hx hb dX5_reckon_13 kc_t_13_147 (fun c_3 => ?_) (fun c_3 => ?_)
      · have bd_5 : pe < 2147483648 := by omega
        have bd_6 : i < 2147483648 := by omega
        have hn_4 := kle (a := pe) (b := i) bd_5 bd_6 c_3
        refine lv_iload hx hb dX5_reckon_160 (lv_at hl 1 rfl) ?_
        refine lv_if_le (tgt := 174) hx hb dX5_reckon_162 kc_t_162_12 (fun c_7 => ?_) (fun c_7 => ?_)
        · have bd_9 : tp < 2147483648 := by omega
          have hn_8 := kle (a := tp) (b := 0) bd_9 kc_31_0 c_7
          refine lv_iconst (v := 0) hx hb dX5_reckon_174 kc_i_0 ?_
          have hP9 := hP
          have hD9 := hD
          have hK9 := hK
          rw [hQ]
          exact W.iret (v := 0) hx hb hr (fun t ht hW => ⟨⟨0, m9, rfl, (by exfalso; have hd9 : L.drop (i - ps) = [] := List.drop_eq_nil_of_le (by omega); rw [hd9] at ivk_2_3; have hs9 : st9 = [kVal l0 L] := ivk_2_3.trans hev; subst hs9; have h7 := ivk_2_2; simp only [List.length_cons, List.length_nil] at h7; omega),  by rw [ht]; exact hP9, va_K.moved hW.alike hK9, hD9⟩, hS.F ht⟩) hS.2.2 dX5_reckon_175
        · have bd_11 : tp < 2147483648 := by omega
          have hn_10 := knle (a := tp) (b := 0) bd_11 kc_31_0 c_7
          refine lv_aload_n hx hb dX5_reckon_165 rfl (lv_at hl 2 rfl) ?_
          refine va_get (D := (dC, dI)) (ci := 5) (v := .ref k1) (C := RX5) (T := TX5) (N := 2) hx hb hts (fun _ h => List.mem_cons_of_mem _ (List.mem_append_right _ (List.mem_append_left _ h))) hown hK hP 0 rfl rfl 1 kc_l_1_2 (hts (.fieldLink RX5 15 "NotEnded$Reckoner" "open" "[I") (List.mem_cons_of_mem _ (List.mem_append_left _ (List.mem_of_getElem? (i := 4) rfl)))) (fun _ h9 => h9) rfl dX5_reckon_166 ?_
          refine lv_iconst (v := 0) hx hb dX5_reckon_169 kc_i_0 ?_
          refine va_iald hx hb hK hP 2 1 rfl rfl kc_in_0_32 dX5_reckon_170 ?_
          refine lv_topi (fun x_12 ex_12 => ?_)
          refine lv_goto (tgt := 175) hx hb dX5_reckon_171 kc_t_171_4 ?_
          have hP9 := hP
          have hD9 := hD
          have hK9 := hK
          rw [hQ]
          exact W.iret (v := x_12) hx hb hr (fun t ht hW => ⟨⟨x_12, m9, rfl, (by have hd9 : L.drop (i - ps) = [] := List.drop_eq_nil_of_le (by omega); rw [hd9] at ivk_2_3; have hs9 : st9 = [kVal l0 L] := ivk_2_3.trans hev; subst hs9; rw [ex_12]; exact kStk_bot ivk_2_5),  by rw [ht]; exact hP9, va_K.moved hW.alike hK9, hD9⟩, hS.F ht⟩) hS.2.2 dX5_reckon_175
      · have bd_14 : pe < 2147483648 := by omega
        have bd_15 : i < 2147483648 := by omega
        have hn_13 := knle (a := pe) (b := i) bd_14 bd_15 c_3
        refine lv_iload hx hb dX5_reckon_16 (lv_at hl 0 rfl) ?_
        refine lv_aload_n hx hb dX5_reckon_18 rfl (lv_at hl 3 rfl) ?_
        have hPR := kFz_at hX.1 hS
        refine va_alen hx hb hK hPR 1 2 rfl rfl (v := nI (nS)) rfl dX5_reckon_19 ?_
        refine lv_icmp_ge (tgt := 160) hx hb dX5_reckon_20 kc_t_20_140 (fun c_16 => ?_) (fun c_16 => ?_)
        · have bd_18 : nS < 2147483648 := by omega
          have hn_17 := kle (a := nS) (b := i) bd_18 bd_15 c_16
          refine lv_iload hx hb dX5_reckon_160 (lv_at hl 1 rfl) ?_
          refine lv_if_le (tgt := 174) hx hb dX5_reckon_162 kc_t_162_12 (fun c_19 => ?_) (fun c_19 => ?_)
          · have bd_21 : tp < 2147483648 := by omega
            have hn_20 := kle (a := tp) (b := 0) bd_21 kc_31_0 c_19
            refine lv_iconst (v := 0) hx hb dX5_reckon_174 kc_i_0 ?_
            have hP9 := hP
            have hD9 := hD
            have hK9 := hK
            rw [hQ]
            exact W.iret (v := 0) hx hb hr (fun t ht hW => ⟨⟨0, m9, rfl, (by exfalso; have hd9 : L.drop (i - ps) = [] := List.drop_eq_nil_of_le (by omega); rw [hd9] at ivk_2_3; have hs9 : st9 = [kVal l0 L] := ivk_2_3.trans hev; subst hs9; have h7 := ivk_2_2; simp only [List.length_cons, List.length_nil] at h7; omega),  by rw [ht]; exact hP9, va_K.moved hW.alike hK9, hD9⟩, hS.F ht⟩) hS.2.2 dX5_reckon_175
          · have bd_23 : tp < 2147483648 := by omega
            have hn_22 := knle (a := tp) (b := 0) bd_23 kc_31_0 c_19
            refine lv_aload_n hx hb dX5_reckon_165 rfl (lv_at hl 2 rfl) ?_
            refine va_get (D := (dC, dI)) (ci := 5) (v := .ref k1) (C := RX5) (T := TX5) (N := 2) hx hb hts (fun _ h => List.mem_cons_of_mem _ (List.mem_append_right _ (List.mem_append_left _ h))) hown hK hP 0 rfl rfl 1 kc_l_1_2 (hts (.fieldLink RX5 15 "NotEnded$Reckoner" "open" "[I") (List.mem_cons_of_mem _ (List.mem_append_left _ (List.mem_of_getElem? (i := 4) rfl)))) (fun _ h9 => h9) rfl dX5_reckon_166 ?_
            refine lv_iconst (v := 0) hx hb dX5_reckon_169 kc_i_0 ?_
            refine va_iald hx hb hK hP 2 1 rfl rfl kc_in_0_32 dX5_reckon_170 ?_
            refine lv_topi (fun x_24 ex_24 => ?_)
            refine lv_goto (tgt := 175) hx hb dX5_reckon_171 kc_t_171_4 ?_
            have hP9 := hP
            have hD9 := hD
            have hK9 := hK
            rw [hQ]
            exact W.iret (v := x_24) hx hb hr (fun t ht hW => ⟨⟨x_24, m9, rfl, (by have hd9 : L.drop (i - ps) = [] := List.drop_eq_nil_of_le (by omega); rw [hd9] at ivk_2_3; have hs9 : st9 = [kVal l0 L] := ivk_2_3.trans hev; subst hs9; rw [ex_24]; exact kStk_bot ivk_2_5),  by rw [ht]; exact hP9, va_K.moved hW.alike hK9, hD9⟩, hS.F ht⟩) hS.2.2 dX5_reckon_175
        · have bd_26 : nS < 2147483648 := by omega
          have hn_25 := knle (a := nS) (b := i) bd_26 bd_15 c_16
          refine lv_aload_n hx hb dX5_reckon_23 rfl (lv_at hl 3 rfl) ?_
          refine lv_iload hx hb dX5_reckon_24 (lv_at hl 0 rfl) ?_
          have hPR := kFz_at hX.1 hS
          have bd_27 : i < nS := by omega
          refine va_iald hx hb hK hPR 1 2 rfl rfl (vp_in_nI (n := i) (N := nS) bd_27 bd_26) dX5_reckon_26 ?_
          refine lv_topi (fun x_28 ex_28 => ?_)
          have hx9 : x_28 = gS i := by rw [ex_28, nI_clamp (n := i) (by omega)]
          have hL9 := kDrp hsg (i := i) (by omega) (by omega)
          rw [← hx9] at hL9
          rw [hL9] at ivk_2_4 ivk_2_3
          refine lv_istore hx hb dX5_reckon_27 hl kc_l_6_7 (kTo [(6, .int x_28), (5, .int (nI (i))), (4, .int (nI (tp))), (0, .ref jK), (1, .ref sA), (2, .int (nI (ps))), (3, .int (nI (pe)))]) (fun ls hl => ?_)
          refine lv_iload hx hb dX5_reckon_29 (lv_at hl 0 rfl) ?_
          refine lv_sipush (v := 20000) hx hb dX5_reckon_31 kc_s_20000 ?_
          refine lv_icmp_ge (tgt := 66) hx hb dX5_reckon_34 kc_t_34_32 (fun c_29 => ?_) (fun c_29 => ?_)
          · refine lv_iload hx hb dX5_reckon_66 (lv_at hl 0 rfl) ?_
            refine lv_sipush (v := 20033) hx hb dX5_reckon_68 kc_s_20033 ?_
            refine lv_icmp_ne (tgt := 108) hx hb dX5_reckon_71 kc_t_71_37 (fun c_30 => ?_) (fun c_30 => ?_)
            · obtain ⟨hf1, hf2⟩ := kFit_j (Int32.not_lt.mpr c_29) c_30 ivk_2_4
              obtain ⟨b9, a9, r9, e9⟩ := kLen2 ivk_2_2 hf1
              subst e9
              refine lv_iload hx hb dX5_reckon_108 (lv_at hl 2 rfl) ?_
              refine lv_iconst (v := 1) hx hb dX5_reckon_110 kc_i_1 ?_
              refine lv_icmp_le (tgt := 154) hx hb dX5_reckon_111 kc_t_111_43 (fun c_31 => absurd c_31 (nI_ge (a := 1) (b := tp) (by omega) (by omega))) (fun c_31 => ?_)
              refine lv_iinc (v := nI (tp - 1)) hx hb dX5_reckon_114 hl (k := 2) rfl (kDec (a := tp) 1 (by omega)) kc_l_4_7 (kTo [(4, .int (nI (tp - 1))), (6, .int x_28), (5, .int (nI (i))), (0, .ref jK), (1, .ref sA), (2, .int (nI (ps))), (3, .int (nI (pe)))]) (fun ls hl => ?_)
              refine lv_aload_n hx hb dX5_reckon_117 rfl (lv_at hl 3 rfl) ?_
              refine va_get (D := (dC, dI)) (ci := 5) (v := .ref k1) (C := RX5) (T := TX5) (N := 2) hx hb hts (fun _ h => List.mem_cons_of_mem _ (List.mem_append_right _ (List.mem_append_left _ h))) hown hK hP 0 rfl rfl 1 kc_l_1_2 (hts (.fieldLink RX5 15 "NotEnded$Reckoner" "open" "[I") (List.mem_cons_of_mem _ (List.mem_append_left _ (List.mem_of_getElem? (i := 4) rfl)))) (fun _ h9 => h9) rfl dX5_reckon_118 ?_
              refine lv_iload hx hb dX5_reckon_121 (lv_at hl 0 rfl) ?_
              refine lv_iconst (v := 1) hx hb dX5_reckon_123 kc_i_1 ?_
              refine lv_isub hx hb dX5_reckon_124 ?_
              refine lv_topi (fun y_32 ey_32 => ?_)
              obtain rfl : y_32 = nI ((tp - 1) - 1) := ey_32.trans (pk_sub (a := tp - 1) (b := 1) (by omega))
              refine lv_iload hx hb dX5_reckon_125 (lv_at hl 1 rfl) ?_
              refine lv_sipush (v := 20000) hx hb dX5_reckon_127 kc_s_20000 ?_
              refine lv_isub hx hb dX5_reckon_130 ?_
              refine lv_topi (fun x_33 ex_33 => ?_)
              refine lv_aload_n hx hb dX5_reckon_131 rfl (lv_at hl 3 rfl) ?_
              refine va_get (D := (dC, dI)) (ci := 5) (v := .ref k1) (C := RX5) (T := TX5) (N := 2) hx hb hts (fun _ h => List.mem_cons_of_mem _ (List.mem_append_right _ (List.mem_append_left _ h))) hown hK hP 0 rfl rfl 1 kc_l_1_2 (hts (.fieldLink RX5 15 "NotEnded$Reckoner" "open" "[I") (List.mem_cons_of_mem _ (List.mem_append_left _ (List.mem_of_getElem? (i := 4) rfl)))) (fun _ h9 => h9) rfl dX5_reckon_132 ?_
              refine lv_iload hx hb dX5_reckon_135 (lv_at hl 0 rfl) ?_
              refine lv_iconst (v := 1) hx hb dX5_reckon_137 kc_i_1 ?_
              refine lv_isub hx hb dX5_reckon_138 ?_
              refine lv_topi (fun y_34 ey_34 => ?_)
              obtain rfl : y_34 = nI ((tp - 1) - 1) := ey_34.trans (pk_sub (a := tp - 1) (b := 1) (by omega))
              have bd_35 : (tp - 1) - 1 < 32 := by omega
              refine va_iald hx hb hK hP 2 1 rfl rfl (vp_in_nI (n := (tp - 1) - 1) (N := 32) bd_35 kc_31_32) dX5_reckon_139 ?_
              refine lv_topi (fun x_36 ex_36 => ?_)
              have e8 : a9 = x_36 := (show x_36 = a9 by rw [ex_36, nI_clamp (n := tp - 1 - 1) (by omega)]; exact kStk_snd ivk_2_2 ivk_2_5).symm
              subst e8
              refine lv_aload_n hx hb dX5_reckon_140 rfl (lv_at hl 3 rfl) ?_
              refine va_get (D := (dC, dI)) (ci := 5) (v := .ref k1) (C := RX5) (T := TX5) (N := 2) hx hb hts (fun _ h => List.mem_cons_of_mem _ (List.mem_append_right _ (List.mem_append_left _ h))) hown hK hP 0 rfl rfl 1 kc_l_1_2 (hts (.fieldLink RX5 15 "NotEnded$Reckoner" "open" "[I") (List.mem_cons_of_mem _ (List.mem_append_left _ (List.mem_of_getElem? (i := 4) rfl)))) (fun _ h9 => h9) rfl dX5_reckon_141 ?_
              refine lv_iload hx hb dX5_reckon_144 (lv_at hl 0 rfl) ?_
              have bd_37 : tp - 1 < 32 := by omega
              refine va_iald hx hb hK hP 2 1 rfl rfl (vp_in_nI (n := tp - 1) (N := 32) bd_37 kc_31_32) dX5_reckon_146 ?_
              refine lv_topi (fun x_38 ex_38 => ?_)
              have e8 : b9 = x_38 := (show x_38 = b9 by rw [ex_38, nI_clamp (n := tp - 1) (by omega)]; exact kStk_top ivk_2_2 ivk_2_5).symm
              subst e8
              have hPc := hP.sb (ws2 := []) [] rfl
              have hKc := hK.sb (tys2 := []) [] rfl
              refine vp_callSl (va_runS (As := [.int x_33, .int a9, .int b9]) (rest := [.int (nI ((tp - 1) - 1)), .ref k1]) ⟨hx, hb, hml, hown, hts⟩ (s_join5x l dC dI x_33 a9 b9) (va_cwS 3 hts (kG (List.forall_mem_cons.mpr ⟨(List.mem_cons_of_mem _ (List.mem_append_left _ (List.mem_of_getElem? (i := 7) rfl))), (List.forall_mem_cons.mpr ⟨(List.mem_cons_of_mem _ (List.mem_append_left _ (List.mem_of_getElem? (i := 6) rfl))), (List.forall_mem_cons.mpr ⟨(List.mem_cons_of_mem _ (List.mem_append_left _ (List.mem_of_getElem? (i := 5) rfl))), (fun _ h => absurd h List.not_mem_nil)⟩)⟩)⟩) (kGS _ _ _) (fun _ h => List.mem_cons_of_mem _ (List.mem_append_right _ (List.mem_append_right _ (List.mem_append_left _ h)))) gw_s_join5x) rfl rfl rfl hd_X5_join ⟨(Nat.le_of_ble_eq_true rfl), (Nat.le_of_ble_eq_true rfl)⟩) (kR_S kT_blind kT_give hPc hKc) rfl rfl hl.1 rfl (lv_room (Nat.le_of_ble_eq_true rfl)) dX5_reckon_147 ⟨(Nat.le_of_ble_eq_true rfl), (Nat.le_of_ble_eq_true rfl)⟩).run (fun r_39 hw => ?_)
              have hw_40 := hw
              have hPc := hP.sb (ws2 := []) [] rfl
              have hKc := hK.sb (tys2 := []) [] rfl
              refine vp_callSi (va_runS (As := [.long r_39]) (rest := [.int (nI ((tp - 1) - 1)), .ref k1]) ⟨hx, hb, hml, hown, hts⟩ (s_bounded5x l dC dI r_39) (va_cwS 1 hts (kG (List.forall_mem_cons.mpr ⟨(List.mem_cons_of_mem _ (List.mem_append_left _ (List.mem_of_getElem? (i := 9) rfl))), (List.forall_mem_cons.mpr ⟨(List.mem_cons_of_mem _ (List.mem_append_left _ (List.mem_of_getElem? (i := 8) rfl))), (List.forall_mem_cons.mpr ⟨(List.mem_cons_of_mem _ (List.mem_append_left _ (List.mem_of_getElem? (i := 5) rfl))), (fun _ h => absurd h List.not_mem_nil)⟩)⟩)⟩) (kGS _ _ _) (fun _ h => List.mem_cons_of_mem _ (List.mem_append_right _ (List.mem_append_right _ (List.mem_append_right _ (List.mem_append_left _ h))))) gw_s_bounded5x) rfl rfl rfl hd_X5_bounded ⟨(Nat.le_of_ble_eq_true rfl), (Nat.le_of_ble_eq_true rfl)⟩) (kR_S kT_blind kT_give hPc hKc) rfl rfl hl.1 rfl (lv_room (Nat.le_of_ble_eq_true rfl)) dX5_reckon_150 ⟨(Nat.le_of_ble_eq_true rfl), (Nat.le_of_ble_eq_true rfl)⟩).run (fun r_41 hw => ?_)
              have hw_42 := hw
              refine va_iast hx hb hK hP hD hS 2 1 rfl rfl (vp_in_nI (n := (tp - 1) - 1) (N := 32) bd_35 kc_31_32) dX5_reckon_153 (fun H locs hP hD hS => ?_)
              obtain ⟨f_43, ef_43⟩ : ∃ gg9 : Nat → Int32, gg9 = upd m9 (Int32.toNatClampNeg (nI ((tp - 1) - 1))) r_41 := ⟨_, rfl⟩
              have hPD : kPD dC dI A [(jK, .inr (5, [.ref k0, .ref k1])), (k0, .inl (cK, 8, .inl l0)), (k1, .inl (cO, 32, .inl f_43))] H := by rw [ef_43]; exact ⟨hP, hD⟩
              have hP := hPD.1
              have hD := hPD.2
              refine lv_iinc (v := nI (i + 1)) hx hb dX5_reckon_154 hl (k := 2) rfl (kInc _ 1) kc_l_5_7 (kTo [(5, .int (nI (i + 1))), (4, .int (nI (tp - 1))), (6, .int x_28), (0, .ref jK), (1, .ref sA), (2, .int (nI (ps))), (3, .int (nI (pe)))]) (fun ls hl => ?_)
              refine lv_goto (tgt := 10) hx hb dX5_reckon_157 kc_t_157_m147 ?_
              exact ih_k_2 (tp - 1) (i + 1) f_43 (kJn (x_28 - 20000) a9 b9 :: r9) (by omega) (by omega) (by have h9 := ivk_2_2; simp only [List.length_cons] at h9 ⊢; omega) (by rw [← ivk_2_3]; show _ = kEv l0 _ (kEv1 l0 _ _); rw [kEv1_j (Int32.not_lt.mpr c_29) c_30]) hf2 (by have h9 := hw_42; rw [hw_40, ex_33] at h9; have h8 : kJn (x_28 - 20000) a9 b9 = r_41 := h9.symm; rw [h8]; exact kStk_push (by have h7 := ivk_2_2; simp only [List.length_cons] at h7; omega) (by omega) ef_43 (kStk_rest (kStk_rest ivk_2_5))) _ _ hP hD hS ls (lv_sub hl [0, 1, 3, 4, 5, 6] rfl) (by omega)
            · rw [c_30] at ivk_2_4 ivk_2_3
              obtain ⟨hf1, hf2⟩ := kFit_n ivk_2_4
              obtain ⟨a9, r9, e9⟩ := kLen1 ivk_2_2 hf1
              subst e9
              refine lv_iload hx hb dX5_reckon_74 (lv_at hl 2 rfl) ?_
              refine lv_if_le (tgt := 154) hx hb dX5_reckon_76 kc_t_76_78 (fun c_44 => absurd c_44 (nI_nle (n := tp) (by omega) (by omega))) (fun c_44 => ?_)
              refine lv_aload_n hx hb dX5_reckon_79 rfl (lv_at hl 3 rfl) ?_
              refine va_get (D := (dC, dI)) (ci := 5) (v := .ref k1) (C := RX5) (T := TX5) (N := 2) hx hb hts (fun _ h => List.mem_cons_of_mem _ (List.mem_append_right _ (List.mem_append_left _ h))) hown hK hP 0 rfl rfl 1 kc_l_1_2 (hts (.fieldLink RX5 15 "NotEnded$Reckoner" "open" "[I") (List.mem_cons_of_mem _ (List.mem_append_left _ (List.mem_of_getElem? (i := 4) rfl)))) (fun _ h9 => h9) rfl dX5_reckon_80 ?_
              refine lv_iload hx hb dX5_reckon_83 (lv_at hl 2 rfl) ?_
              refine lv_iconst (v := 1) hx hb dX5_reckon_85 kc_i_1 ?_
              refine lv_isub hx hb dX5_reckon_86 ?_
              refine lv_topi (fun y_45 ey_45 => ?_)
              obtain rfl : y_45 = nI (tp - 1) := ey_45.trans (pk_sub (a := tp) (b := 1) (by omega))
              refine lv_aload_n hx hb dX5_reckon_87 rfl (lv_at hl 3 rfl) ?_
              refine va_get (D := (dC, dI)) (ci := 5) (v := .ref k1) (C := RX5) (T := TX5) (N := 2) hx hb hts (fun _ h => List.mem_cons_of_mem _ (List.mem_append_right _ (List.mem_append_left _ h))) hown hK hP 0 rfl rfl 1 kc_l_1_2 (hts (.fieldLink RX5 15 "NotEnded$Reckoner" "open" "[I") (List.mem_cons_of_mem _ (List.mem_append_left _ (List.mem_of_getElem? (i := 4) rfl)))) (fun _ h9 => h9) rfl dX5_reckon_88 ?_
              refine lv_iload hx hb dX5_reckon_91 (lv_at hl 2 rfl) ?_
              refine lv_iconst (v := 1) hx hb dX5_reckon_93 kc_i_1 ?_
              refine lv_isub hx hb dX5_reckon_94 ?_
              refine lv_topi (fun y_46 ey_46 => ?_)
              obtain rfl : y_46 = nI (tp - 1) := ey_46.trans (pk_sub (a := tp) (b := 1) (by omega))
              have bd_47 : tp - 1 < 32 := by omega
              refine va_iald hx hb hK hP 2 1 rfl rfl (vp_in_nI (n := tp - 1) (N := 32) bd_47 kc_31_32) dX5_reckon_95 ?_
              refine lv_topi (fun x_48 ex_48 => ?_)
              have e8 : a9 = x_48 := (show x_48 = a9 by rw [ex_48, nI_clamp (n := tp - 1) (by omega)]; exact kStk_top ivk_2_2 ivk_2_5).symm
              subst e8
              refine lv_if_ne (tgt := 103) hx hb dX5_reckon_96 kc_t_96_7 (fun c_49 => ?_) (fun c_49 => ?_)
              · refine lv_iconst (v := 0) hx hb dX5_reckon_103 kc_i_0 ?_
                refine va_iast hx hb hK hP hD hS 2 1 rfl rfl (vp_in_nI (n := tp - 1) (N := 32) bd_47 kc_31_32) dX5_reckon_104 (fun H locs hP hD hS => ?_)
                obtain ⟨f_50, ef_50⟩ : ∃ gg9 : Nat → Int32, gg9 = upd m9 (Int32.toNatClampNeg (nI (tp - 1))) 0 := ⟨_, rfl⟩
                have hPD : kPD dC dI A [(jK, .inr (5, [.ref k0, .ref k1])), (k0, .inl (cK, 8, .inl l0)), (k1, .inl (cO, 32, .inl f_50))] H := by rw [ef_50]; exact ⟨hP, hD⟩
                have hP := hPD.1
                have hD := hPD.2
                refine lv_goto (tgt := 154) hx hb dX5_reckon_105 kc_t_105_49 ?_
                refine lv_iinc (v := nI (i + 1)) hx hb dX5_reckon_154 hl (k := 1) rfl (kInc _ 1) kc_l_5_7 (kTo [(5, .int (nI (i + 1))), (6, .int x_28), (4, .int (nI (tp))), (0, .ref jK), (1, .ref sA), (2, .int (nI (ps))), (3, .int (nI (pe)))]) (fun ls hl => ?_)
                refine lv_goto (tgt := 10) hx hb dX5_reckon_157 kc_t_157_m147 ?_
                exact ih_k_2 tp (i + 1) f_50 ((if a9 = 0 then 1 else 0) :: r9) (by omega) (by omega) (by have h9 := ivk_2_2; simp only [List.length_cons] at h9 ⊢; omega) (by rw [← ivk_2_3]; show _ = kEv l0 _ (kEv1 l0 _ _); rw [kEv1_n]) hf2 (by rw [if_neg c_49]; exact kStk_push (by have h9 := ivk_2_2; simp only [List.length_cons] at h9; omega) (by omega) ef_50 (kStk_rest ivk_2_5)) _ _ hP hD hS ls (lv_sub hl [0, 2, 3, 4, 5, 6] rfl) (by omega)
              · refine lv_iconst (v := 1) hx hb dX5_reckon_99 kc_i_1 ?_
                refine lv_goto (tgt := 104) hx hb dX5_reckon_100 kc_t_100_4 ?_
                refine va_iast hx hb hK hP hD hS 2 1 rfl rfl (vp_in_nI (n := tp - 1) (N := 32) bd_47 kc_31_32) dX5_reckon_104 (fun H locs hP hD hS => ?_)
                obtain ⟨f_51, ef_51⟩ : ∃ gg9 : Nat → Int32, gg9 = upd m9 (Int32.toNatClampNeg (nI (tp - 1))) 1 := ⟨_, rfl⟩
                have hPD : kPD dC dI A [(jK, .inr (5, [.ref k0, .ref k1])), (k0, .inl (cK, 8, .inl l0)), (k1, .inl (cO, 32, .inl f_51))] H := by rw [ef_51]; exact ⟨hP, hD⟩
                have hP := hPD.1
                have hD := hPD.2
                refine lv_goto (tgt := 154) hx hb dX5_reckon_105 kc_t_105_49 ?_
                refine lv_iinc (v := nI (i + 1)) hx hb dX5_reckon_154 hl (k := 1) rfl (kInc _ 1) kc_l_5_7 (kTo [(5, .int (nI (i + 1))), (6, .int x_28), (4, .int (nI (tp))), (0, .ref jK), (1, .ref sA), (2, .int (nI (ps))), (3, .int (nI (pe)))]) (fun ls hl => ?_)
                refine lv_goto (tgt := 10) hx hb dX5_reckon_157 kc_t_157_m147 ?_
                exact ih_k_2 tp (i + 1) f_51 ((if a9 = 0 then 1 else 0) :: r9) (by omega) (by omega) (by have h9 := ivk_2_2; simp only [List.length_cons] at h9 ⊢; omega) (by rw [← ivk_2_3]; show _ = kEv l0 _ (kEv1 l0 _ _); rw [kEv1_n]) hf2 (by rw [if_pos c_49]; exact kStk_push (by have h9 := ivk_2_2; simp only [List.length_cons] at h9; omega) (by omega) ef_51 (kStk_rest ivk_2_5)) _ _ hP hD hS ls (lv_sub hl [0, 2, 3, 4, 5, 6] rfl) (by omega)
          · obtain ⟨hf1, hf2⟩ := kFit_p (Int32.not_le.mp c_29) ivk_2_4
            refine lv_iload hx hb dX5_reckon_37 (lv_at hl 2 rfl) ?_
            refine lv_aload_n hx hb dX5_reckon_39 rfl (lv_at hl 3 rfl) ?_
            refine va_get (D := (dC, dI)) (ci := 5) (v := .ref k1) (C := RX5) (T := TX5) (N := 2) hx hb hts (fun _ h => List.mem_cons_of_mem _ (List.mem_append_right _ (List.mem_append_left _ h))) hown hK hP 0 rfl rfl 1 kc_l_1_2 (hts (.fieldLink RX5 15 "NotEnded$Reckoner" "open" "[I") (List.mem_cons_of_mem _ (List.mem_append_left _ (List.mem_of_getElem? (i := 4) rfl)))) (fun _ h9 => h9) rfl dX5_reckon_40 ?_
            refine va_alen hx hb hK hP 2 1 rfl rfl (v := 32) rfl dX5_reckon_43 ?_
            refine lv_icmp_ge (tgt := 154) hx hb dX5_reckon_44 kc_t_44_110 (fun c_52 => absurd c_52 (nI_ge (a := tp) (b := 32) (by omega) (by decide))) (fun c_52 => ?_)
            refine lv_aload_n hx hb dX5_reckon_47 rfl (lv_at hl 3 rfl) ?_
            refine va_get (D := (dC, dI)) (ci := 5) (v := .ref k1) (C := RX5) (T := TX5) (N := 2) hx hb hts (fun _ h => List.mem_cons_of_mem _ (List.mem_append_right _ (List.mem_append_left _ h))) hown hK hP 0 rfl rfl 1 kc_l_1_2 (hts (.fieldLink RX5 15 "NotEnded$Reckoner" "open" "[I") (List.mem_cons_of_mem _ (List.mem_append_left _ (List.mem_of_getElem? (i := 4) rfl)))) (fun _ h9 => h9) rfl dX5_reckon_48 ?_
            refine lv_iload hx hb dX5_reckon_51 (lv_at hl 2 rfl) ?_
            refine lv_aload_n hx hb dX5_reckon_53 rfl (lv_at hl 3 rfl) ?_
            refine lv_iload hx hb dX5_reckon_54 (lv_at hl 0 rfl) ?_
            have hPc := hP.sb (ws2 := [(jK, .inr (5, [.ref k0, .ref k1])), (k0, .inl (cK, 8, .inl l0)), (k1, .inl (cO, 32, .inl m9))]) [0, 1, 2] rfl
            have hKc := hK.sb (tys2 := [(cK, .int), (cO, .int)]) [0, 1] rfl
            refine vp_callSi (va_runV (As := [.int x_28]) (rest := [.int (nI (tp)), .ref k1]) ⟨hx, hb, hml, hown, hts⟩ (s_valueOf5x l dC dI jK k0 k1 cK cO l0 m9 x_28) (cwV 1 hts (kG (List.forall_mem_cons.mpr ⟨(List.mem_cons_of_mem _ (List.mem_append_left _ (List.mem_of_getElem? (i := 12) rfl))), (List.forall_mem_cons.mpr ⟨(List.mem_cons_of_mem _ (List.mem_append_left _ (List.mem_of_getElem? (i := 11) rfl))), (List.forall_mem_cons.mpr ⟨(List.mem_cons_of_mem _ (List.mem_append_left _ (List.mem_of_getElem? (i := 10) rfl))), (List.forall_mem_cons.mpr ⟨(List.mem_cons_of_mem _ (List.mem_append_left _ (List.mem_of_getElem? (i := 5) rfl))), (fun _ h => absurd h List.not_mem_nil)⟩)⟩)⟩)⟩) (kGV _ _ _ _) (fun _ h => List.mem_cons_of_mem _ (List.mem_append_right _ (List.mem_append_right _ (List.mem_append_right _ (List.mem_append_right _ h))))) gw_s_valueOf5x) rfl rfl rfl ⟨rfl, hd_X5_valueOf⟩ ⟨(Nat.le_of_ble_eq_true rfl), (Nat.le_of_ble_eq_true rfl)⟩) (kR_V kT_blind kT_give (va_recv hKc hPc (ci := 5) (q0 := 0) rfl rfl) hPc hKc) rfl rfl hl.1 rfl (lv_room (Nat.le_of_ble_eq_true rfl)) dX5_reckon_56 ⟨(Nat.le_of_ble_eq_true rfl), (Nat.le_of_ble_eq_true rfl)⟩).run (fun r_53 hw => ?_)
            have hw_54 := hw
            have bd_56 : tp < 32 := by omega
            refine va_iast hx hb hK hP hD hS 2 1 rfl rfl (vp_in_nI (n := tp) (N := 32) bd_56 kc_31_32) dX5_reckon_59 (fun H locs hP hD hS => ?_)
            obtain ⟨f_55, ef_55⟩ : ∃ gg9 : Nat → Int32, gg9 = upd m9 (Int32.toNatClampNeg (nI (tp))) r_53 := ⟨_, rfl⟩
            have hPD : kPD dC dI A [(jK, .inr (5, [.ref k0, .ref k1])), (k0, .inl (cK, 8, .inl l0)), (k1, .inl (cO, 32, .inl f_55))] H := by rw [ef_55]; exact ⟨hP, hD⟩
            have hP := hPD.1
            have hD := hPD.2
            refine lv_iinc (v := nI (tp + 1)) hx hb dX5_reckon_60 hl (k := 2) rfl (kInc _ 1) kc_l_4_7 (kTo [(4, .int (nI (tp + 1))), (6, .int x_28), (5, .int (nI (i))), (0, .ref jK), (1, .ref sA), (2, .int (nI (ps))), (3, .int (nI (pe)))]) (fun ls hl => ?_)
            refine lv_goto (tgt := 154) hx hb dX5_reckon_63 kc_t_63_91 ?_
            refine lv_iinc (v := nI (i + 1)) hx hb dX5_reckon_154 hl (k := 2) rfl (kInc _ 1) kc_l_5_7 (kTo [(5, .int (nI (i + 1))), (4, .int (nI (tp + 1))), (6, .int x_28), (0, .ref jK), (1, .ref sA), (2, .int (nI (ps))), (3, .int (nI (pe)))]) (fun ls hl => ?_)
            refine lv_goto (tgt := 10) hx hb dX5_reckon_157 kc_t_157_m147 ?_
            exact ih_k_2 (tp + 1) (i + 1) f_55 (kStv l0 x_28 :: st9) (by omega) (by omega) (by rw [List.length_cons]; omega) (by rw [← ivk_2_3]; show _ = kEv l0 _ (kEv1 l0 _ _); rw [kEv1_p (Int32.not_le.mp c_29)]) hf2 (by rw [← hw_54]; exact kStk_push ivk_2_2 (by omega) ef_55 ivk_2_5) _ _ hP hD hS ls (lv_sub hl [0, 1, 3, 4, 5, 6] rfl) (by omega)
  exact lp_k_2 (nS - ps + 1) 0 ps l1 ([]) (by omega) (by omega) rfl (by rw [Nat.sub_self]; rfl) (by rw [Nat.sub_self]; exact hfit) (kStk_nil _) _ _ hP hD hS ls (lv_sub hl [0, 1, 2, 3, 4, 5] rfl) (by omega)
