theorem dX10_thrown_0 : decode cX10_thrown 0 = .ok (.aload_n 0, 1) := by decide +kernel
theorem dX10_thrown_1 : decode cX10_thrown 1 = .ok (.getfield 117, 3) := by decide +kernel
theorem dX10_thrown_4 : decode cX10_thrown 4 = .ok (.ireturn, 1) := by decide +kernel
def w_s_thrown10 : List Cond := .code yX10_thrown cX10_thrown 1 (some .int) :: ([.fieldLink RX10 117 "NotEndedModel" "thrown" "I"] ++ (wsX100))
theorem gw_s_thrown10 : (w_s_thrown10).all goodWord = true := kGc rfl (kGa (by decide +kernel) gw_wsX100)
theorem hd_X10_thrown : yX10_thrown.cls ≠ "java/lang/invoke/MethodHandle" ∧ yX10_thrown.cls ≠ "java/lang/invoke/VarHandle" ∧ (parseMethodDescriptor yX10_thrown.desc).map (fun d => d.parameters.length) = some 0 := by decide +kernel
set_option maxHeartbeats 4000000 in
set_option maxRecDepth 100000 in
theorem s_thrown10 (l : Launch) (dC : Nat → ClassId) (dI : Nat → Nat → Nat) (jM : Nat) (th : Int32) (thr : Int32) (xx : Int64) (v5 : Value) (v9 : Value) (v10 : Value) (v11 : Value) (v12 : Value) (v13 : Value) (v14 : Value) (v15 : Value) (v16 : Value) (v17 : Value) (v18 : Value) (m1 : Nat) (m2 : Nat) (m3 : Nat) (m4 : Nat) (m19 : Nat) (m20 : Nat) (m21 : Nat) (m22 : Nat) (m23 : Nat) (m24 : Nat) (m25 : Nat) (m28 : Nat) (m29 : Nat) (m30 : Nat) (m31 : Nat) (m32 : Nat) (m33 : Nat) (m34 : Nat) (m35 : Nat) (m36 : Nat) (m40 : Nat) (m41 : Nat) (m42 : Nat) (m43 : Nat) (m44 : Nat) (m46 : Nat) (m47 : Nat) (m48 : Nat) (m49 : Nat) (m50 : Nat) (mc1 : ClassId) (mc2 : ClassId) (mc3 : ClassId) (mc4 : ClassId) (mc19 : ClassId) (mc20 : ClassId) (mc21 : ClassId) (mc22 : ClassId) (mc23 : ClassId) (mc24 : ClassId) (mc25 : ClassId) (mc28 : ClassId) (mc29 : ClassId) (mc30 : ClassId) (mc31 : ClassId) (mc32 : ClassId) (mc33 : ClassId) (mc34 : ClassId) (mc35 : ClassId) (mc36 : ClassId) (mc40 : ClassId) (mc41 : ClassId) (mc42 : ClassId) (mc43 : ClassId) (mc44 : ClassId) (mc46 : ClassId) (mc47 : ClassId) (mc48 : ClassId) (mc49 : ClassId) (mc50 : ClassId) (mf1 : Nat → Int32) (mf2 : Nat → Int32) (mf3 : Nat → Int32) (mf4 : Nat → Int32) (mf19 : Nat → Int32) (mf20 : Nat → Int32) (mf21 : Nat → Int32) (mf22 : Nat → Int32) (mf23 : Nat → Int32) (mf24 : Nat → Int32) (mf25 : Nat → Int32) (mf28 : Nat → Int32) (mf29 : Nat → Int32) (mf30 : Nat → Int32) (mf31 : Nat → Int32) (mf32 : Nat → Int32) (mf33 : Nat → Int32) (mf34 : Nat → Int32) (mf35 : Nat → Int32) (mf36 : Nat → Int32) (mf40 : Nat → Int32) (mf41 : Nat → Int32) (mf42 : Nat → Int32) (mf43 : Nat → Int32) (mf44 : Nat → Int32) (mf46 : Nat → Int64) (mf47 : Nat → Int32) (mf48 : Nat → Int32) (mf49 : Nat → Int32) (mf50 : Nat → Int32) (ml : Nat) (mkl : Nat) (mku : Nat) (mps : Nat) (mkw : Nat) (ho : Nat) (mkn : Nat) (mka : Nat) (hml : ml ≤ 120) (hmkl : mkl ≤ 6) (hmku : mku ≤ 8) (hmps : mps ≤ 10) (hmkw : mkw ≤ 4) (hho : ho ≤ 48) (hmkn : mkn ≤ 20) (hmka : mka ≤ 6) : Met l yX10_thrown w_s_thrown10 ({ frames := 1, cells := 0, slots := 0, locals := 60 }) (kR dC dI [.ref jM] [(jM, .inr (10, [.int th, .ref m1, .ref m2, .ref m3, .ref m4, v5, .int (nI (ml)), .int (nI (mkl)), .int (nI (mku)), v9, v10, v11, v12, v13, v14, v15, v16, v17, v18, .ref m19, .ref m20, .ref m21, .ref m22, .ref m23, .ref m24, .ref m25, .int (nI (mps)), .int (nI (mkw)), .ref m28, .ref m29, .ref m30, .ref m31, .ref m32, .ref m33, .ref m34, .ref m35, .ref m36, .int thr, .int (nI (ho)), .long xx, .ref m40, .ref m41, .ref m42, .ref m43, .ref m44, .int (nI (mkn)), .ref m46, .ref m47, .ref m48, .ref m49, .ref m50, .int (nI (mka))])), (m1, .inl (mc1, 120, .inl mf1)), (m2, .inl (mc2, 1680, .inl mf2)), (m3, .inl (mc3, 14, .inl mf3)), (m4, .inl (mc4, 128, .inl mf4)), (m19, .inl (mc19, 10, .inl mf19)), (m20, .inl (mc20, 10, .inl mf20)), (m21, .inl (mc21, 10, .inl mf21)), (m22, .inl (mc22, 10, .inl mf22)), (m23, .inl (mc23, 10, .inl mf23)), (m24, .inl (mc24, 4, .inl mf24)), (m25, .inl (mc25, 10, .inl mf25)), (m28, .inl (mc28, 10, .inl mf28)), (m29, .inl (mc29, 10, .inl mf29)), (m30, .inl (mc30, 10, .inl mf30)), (m31, .inl (mc31, 10, .inl mf31)), (m32, .inl (mc32, 10, .inl mf32)), (m33, .inl (mc33, 10, .inl mf33)), (m34, .inl (mc34, 10, .inl mf34)), (m35, .inl (mc35, 10, .inl mf35)), (m36, .inl (mc36, 10, .inl mf36)), (m40, .inl (mc40, 20, .inl mf40)), (m41, .inl (mc41, 20, .inl mf41)), (m42, .inl (mc42, 20, .inl mf42)), (m43, .inl (mc43, 20, .inl mf43)), (m44, .inl (mc44, 20, .inl mf44)), (m46, .inl (mc46, 14, .inr (.inl mf46))), (m47, .inl (mc47, 6, .inl mf47)), (m48, .inl (mc48, 6, .inl mf48)), (m49, .inl (mc49, 6, .inl mf49)), (m50, .inl (mc50, 6, .inl mf50))] [(mc1, .byte), (mc2, .byte), (mc3, .int), (mc4, .int), (mc19, .int), (mc20, .int), (mc21, .int), (mc22, .int), (mc23, .int), (mc24, .int), (mc25, .boolean), (mc28, .int), (mc29, .int), (mc30, .int), (mc31, .int), (mc32, .int), (mc33, .int), (mc34, .int), (mc35, .int), (mc36, .int), (mc40, .int), (mc41, .int), (mc42, .int), (mc43, .int), (mc44, .int), (mc46, .long), (mc47, .int), (mc48, .int), (mc49, .int), (mc50, .int)] kT) (vp_Si (fun r : Int32 => r = th)) 0 0 (fun _ => False) := by
  refine Met.ofW (cc := cX10_thrown) (maxL := 1) (ret := (some .int)) (by decide) rfl ?_
  intro p e s m args below meth c s₁ B hml hv
  obtain ⟨rfl, hP, hK, hX⟩ := hv
  have hx := B.exec
  have hb := B.bytes
  have hr := B.returns
  have hts := atoms_spec (ws := w_s_thrown10) B.pre
  have hown : s.vm.findClass RX10 = some m.cls := findClass_of_methodNamed B.named
  have hlocks := B.notSynchronized
  have hP : va_P (dC, dI) vwCl [(jM, .inr (10, [.int th, .ref m1, .ref m2, .ref m3, .ref m4, v5, .int (nI (ml)), .int (nI (mkl)), .int (nI (mku)), v9, v10, v11, v12, v13, v14, v15, v16, v17, v18, .ref m19, .ref m20, .ref m21, .ref m22, .ref m23, .ref m24, .ref m25, .int (nI (mps)), .int (nI (mkw)), .ref m28, .ref m29, .ref m30, .ref m31, .ref m32, .ref m33, .ref m34, .ref m35, .ref m36, .int thr, .int (nI (ho)), .long xx, .ref m40, .ref m41, .ref m42, .ref m43, .ref m44, .int (nI (mkn)), .ref m46, .ref m47, .ref m48, .ref m49, .ref m50, .int (nI (mka))])), (m1, .inl (mc1, 120, .inl mf1)), (m2, .inl (mc2, 1680, .inl mf2)), (m3, .inl (mc3, 14, .inl mf3)), (m4, .inl (mc4, 128, .inl mf4)), (m19, .inl (mc19, 10, .inl mf19)), (m20, .inl (mc20, 10, .inl mf20)), (m21, .inl (mc21, 10, .inl mf21)), (m22, .inl (mc22, 10, .inl mf22)), (m23, .inl (mc23, 10, .inl mf23)), (m24, .inl (mc24, 4, .inl mf24)), (m25, .inl (mc25, 10, .inl mf25)), (m28, .inl (mc28, 10, .inl mf28)), (m29, .inl (mc29, 10, .inl mf29)), (m30, .inl (mc30, 10, .inl mf30)), (m31, .inl (mc31, 10, .inl mf31)), (m32, .inl (mc32, 10, .inl mf32)), (m33, .inl (mc33, 10, .inl mf33)), (m34, .inl (mc34, 10, .inl mf34)), (m35, .inl (mc35, 10, .inl mf35)), (m36, .inl (mc36, 10, .inl mf36)), (m40, .inl (mc40, 20, .inl mf40)), (m41, .inl (mc41, 20, .inl mf41)), (m42, .inl (mc42, 20, .inl mf42)), (m43, .inl (mc43, 20, .inl mf43)), (m44, .inl (mc44, 20, .inl mf44)), (m46, .inl (mc46, 14, .inr (.inl mf46))), (m47, .inl (mc47, 6, .inl mf47)), (m48, .inl (mc48, 6, .inl mf48)), (m49, .inl (mc49, 6, .inl mf49)), (m50, .inl (mc50, 6, .inl mf50))] s.heap := hP
  have hl := lv_entry ([.ref jM]) (n := 1) (Nat.le_of_ble_eq_true rfl)
  rw [lg_entry_eq]
  generalize (lg_sl ([.ref jM]) ++ List.replicate (1 - (lg_sl ([.ref jM])).length) Slot.unset).toArray = ls at hl ⊢
  have hl : lv_has ls 1 [(0, .ref jM)] := hl
  refine kQ (fun Q hQ => ?_)
  refine lv_aload_n hx hb dX10_thrown_0 rfl (lv_at hl 0 rfl) ?_
  refine va_get (D := (dC, dI)) (ci := 10) (v := .int th) (C := RX10) (T := TX10) (N := 52) hx hb hts (fun _ h => List.mem_cons_of_mem _ (List.mem_append_right _ h)) hown hK hP 0 rfl rfl 0 kc_l_0_52 (hts (.fieldLink RX10 117 "NotEndedModel" "thrown" "I") (List.mem_cons_of_mem _ (List.mem_append_left _ (List.mem_of_getElem? (i := 0) rfl)))) (fun _ h9 => h9) rfl dX10_thrown_1 ?_
  rw [hQ]
  exact W.iret (v := th) hx hb hr (fun t ht hW => ⟨th, rfl, rfl, ht⟩) (fun _ h => nomatch h) dX10_thrown_4

def w_s_isAlone10x : List Cond := .code yX10_isAlone cX10_isAlone 3 (some .boolean) :: ([.fieldLink RX10 250 "NotEndedModel" "persons" "I", .fieldLink RX10 43 "NotEndedModel" "toldHouse" "[I"] ++ (wsX100))
theorem gw_s_isAlone10x : (w_s_isAlone10x).all goodWord = true := kGc rfl (kGa (by decide +kernel) gw_wsX100)
set_option maxHeartbeats 4000000 in
set_option maxRecDepth 100000 in
theorem s_isAlone10x (l : Launch) (dC : Nat → ClassId) (dI : Nat → Nat → Nat) (jM : Nat) (th : Int32) (thr : Int32) (xx : Int64) (v5 : Value) (v9 : Value) (v10 : Value) (v11 : Value) (v12 : Value) (v13 : Value) (v14 : Value) (v15 : Value) (v16 : Value) (v17 : Value) (v18 : Value) (m1 : Nat) (m2 : Nat) (m3 : Nat) (m4 : Nat) (m19 : Nat) (m20 : Nat) (m21 : Nat) (m22 : Nat) (m23 : Nat) (m24 : Nat) (m25 : Nat) (m28 : Nat) (m29 : Nat) (m30 : Nat) (m31 : Nat) (m32 : Nat) (m33 : Nat) (m34 : Nat) (m35 : Nat) (m36 : Nat) (m40 : Nat) (m41 : Nat) (m42 : Nat) (m43 : Nat) (m44 : Nat) (m46 : Nat) (m47 : Nat) (m48 : Nat) (m49 : Nat) (m50 : Nat) (mc1 : ClassId) (mc2 : ClassId) (mc3 : ClassId) (mc4 : ClassId) (mc19 : ClassId) (mc20 : ClassId) (mc21 : ClassId) (mc22 : ClassId) (mc23 : ClassId) (mc24 : ClassId) (mc25 : ClassId) (mc28 : ClassId) (mc29 : ClassId) (mc30 : ClassId) (mc31 : ClassId) (mc32 : ClassId) (mc33 : ClassId) (mc34 : ClassId) (mc35 : ClassId) (mc36 : ClassId) (mc40 : ClassId) (mc41 : ClassId) (mc42 : ClassId) (mc43 : ClassId) (mc44 : ClassId) (mc46 : ClassId) (mc47 : ClassId) (mc48 : ClassId) (mc49 : ClassId) (mc50 : ClassId) (mf1 : Nat → Int32) (mf2 : Nat → Int32) (mf3 : Nat → Int32) (mf4 : Nat → Int32) (mf19 : Nat → Int32) (mf20 : Nat → Int32) (mf21 : Nat → Int32) (mf22 : Nat → Int32) (mf23 : Nat → Int32) (mf24 : Nat → Int32) (mf25 : Nat → Int32) (mf28 : Nat → Int32) (mf29 : Nat → Int32) (mf30 : Nat → Int32) (mf31 : Nat → Int32) (mf32 : Nat → Int32) (mf33 : Nat → Int32) (mf34 : Nat → Int32) (mf35 : Nat → Int32) (mf36 : Nat → Int32) (mf40 : Nat → Int32) (mf41 : Nat → Int32) (mf42 : Nat → Int32) (mf43 : Nat → Int32) (mf44 : Nat → Int32) (mf46 : Nat → Int64) (mf47 : Nat → Int32) (mf48 : Nat → Int32) (mf49 : Nat → Int32) (mf50 : Nat → Int32) (ml : Nat) (mkl : Nat) (mku : Nat) (mps : Nat) (mkw : Nat) (ho : Nat) (mkn : Nat) (mka : Nat) (hml : ml ≤ 120) (hmkl : mkl ≤ 6) (hmku : mku ≤ 8) (hmps : mps ≤ 10) (hmkw : mkw ≤ 4) (hho : ho ≤ 48) (hmkn : mkn ≤ 20) (hmka : mka ≤ 6) (pj : Nat) (hpj : pj < mps) : Met l yX10_isAlone w_s_isAlone10x ({ frames := 2, cells := 0, slots := 0, locals := 120 }) (kR dC dI [.ref jM, .int (nI (pj))] [(jM, .inr (10, [.int th, .ref m1, .ref m2, .ref m3, .ref m4, v5, .int (nI (ml)), .int (nI (mkl)), .int (nI (mku)), v9, v10, v11, v12, v13, v14, v15, v16, v17, v18, .ref m19, .ref m20, .ref m21, .ref m22, .ref m23, .ref m24, .ref m25, .int (nI (mps)), .int (nI (mkw)), .ref m28, .ref m29, .ref m30, .ref m31, .ref m32, .ref m33, .ref m34, .ref m35, .ref m36, .int thr, .int (nI (ho)), .long xx, .ref m40, .ref m41, .ref m42, .ref m43, .ref m44, .int (nI (mkn)), .ref m46, .ref m47, .ref m48, .ref m49, .ref m50, .int (nI (mka))])), (m1, .inl (mc1, 120, .inl mf1)), (m2, .inl (mc2, 1680, .inl mf2)), (m3, .inl (mc3, 14, .inl mf3)), (m4, .inl (mc4, 128, .inl mf4)), (m19, .inl (mc19, 10, .inl mf19)), (m20, .inl (mc20, 10, .inl mf20)), (m21, .inl (mc21, 10, .inl mf21)), (m22, .inl (mc22, 10, .inl mf22)), (m23, .inl (mc23, 10, .inl mf23)), (m24, .inl (mc24, 4, .inl mf24)), (m25, .inl (mc25, 10, .inl mf25)), (m28, .inl (mc28, 10, .inl mf28)), (m29, .inl (mc29, 10, .inl mf29)), (m30, .inl (mc30, 10, .inl mf30)), (m31, .inl (mc31, 10, .inl mf31)), (m32, .inl (mc32, 10, .inl mf32)), (m33, .inl (mc33, 10, .inl mf33)), (m34, .inl (mc34, 10, .inl mf34)), (m35, .inl (mc35, 10, .inl mf35)), (m36, .inl (mc36, 10, .inl mf36)), (m40, .inl (mc40, 20, .inl mf40)), (m41, .inl (mc41, 20, .inl mf41)), (m42, .inl (mc42, 20, .inl mf42)), (m43, .inl (mc43, 20, .inl mf43)), (m44, .inl (mc44, 20, .inl mf44)), (m46, .inl (mc46, 14, .inr (.inl mf46))), (m47, .inl (mc47, 6, .inl mf47)), (m48, .inl (mc48, 6, .inl mf48)), (m49, .inl (mc49, 6, .inl mf49)), (m50, .inl (mc50, 6, .inl mf50))] [(mc1, .byte), (mc2, .byte), (mc3, .int), (mc4, .int), (mc19, .int), (mc20, .int), (mc21, .int), (mc22, .int), (mc23, .int), (mc24, .int), (mc25, .boolean), (mc28, .int), (mc29, .int), (mc30, .int), (mc31, .int), (mc32, .int), (mc33, .int), (mc34, .int), (mc35, .int), (mc36, .int), (mc40, .int), (mc41, .int), (mc42, .int), (mc43, .int), (mc44, .int), (mc46, .long), (mc47, .int), (mc48, .int), (mc49, .int), (mc50, .int)] kT) (vp_Si (fun r : Int32 => (¬ r = 0 ↔ kAlR mf21 pj mps = true))) 0 0 (fun _ => False) := by
  refine Met.ofW (cc := cX10_isAlone) (maxL := 3) (ret := (some .boolean)) (by decide) rfl ?_
  intro p e s m args below meth c s₁ B hml hv
  obtain ⟨rfl, hP, hK, hX⟩ := hv
  have hx := B.exec
  have hb := B.bytes
  have hr := B.returns
  have hts := atoms_spec (ws := w_s_isAlone10x) B.pre
  have hown : s.vm.findClass RX10 = some m.cls := findClass_of_methodNamed B.named
  have hlocks := B.notSynchronized
  have hP : va_P (dC, dI) vwCl [(jM, .inr (10, [.int th, .ref m1, .ref m2, .ref m3, .ref m4, v5, .int (nI (ml)), .int (nI (mkl)), .int (nI (mku)), v9, v10, v11, v12, v13, v14, v15, v16, v17, v18, .ref m19, .ref m20, .ref m21, .ref m22, .ref m23, .ref m24, .ref m25, .int (nI (mps)), .int (nI (mkw)), .ref m28, .ref m29, .ref m30, .ref m31, .ref m32, .ref m33, .ref m34, .ref m35, .ref m36, .int thr, .int (nI (ho)), .long xx, .ref m40, .ref m41, .ref m42, .ref m43, .ref m44, .int (nI (mkn)), .ref m46, .ref m47, .ref m48, .ref m49, .ref m50, .int (nI (mka))])), (m1, .inl (mc1, 120, .inl mf1)), (m2, .inl (mc2, 1680, .inl mf2)), (m3, .inl (mc3, 14, .inl mf3)), (m4, .inl (mc4, 128, .inl mf4)), (m19, .inl (mc19, 10, .inl mf19)), (m20, .inl (mc20, 10, .inl mf20)), (m21, .inl (mc21, 10, .inl mf21)), (m22, .inl (mc22, 10, .inl mf22)), (m23, .inl (mc23, 10, .inl mf23)), (m24, .inl (mc24, 4, .inl mf24)), (m25, .inl (mc25, 10, .inl mf25)), (m28, .inl (mc28, 10, .inl mf28)), (m29, .inl (mc29, 10, .inl mf29)), (m30, .inl (mc30, 10, .inl mf30)), (m31, .inl (mc31, 10, .inl mf31)), (m32, .inl (mc32, 10, .inl mf32)), (m33, .inl (mc33, 10, .inl mf33)), (m34, .inl (mc34, 10, .inl mf34)), (m35, .inl (mc35, 10, .inl mf35)), (m36, .inl (mc36, 10, .inl mf36)), (m40, .inl (mc40, 20, .inl mf40)), (m41, .inl (mc41, 20, .inl mf41)), (m42, .inl (mc42, 20, .inl mf42)), (m43, .inl (mc43, 20, .inl mf43)), (m44, .inl (mc44, 20, .inl mf44)), (m46, .inl (mc46, 14, .inr (.inl mf46))), (m47, .inl (mc47, 6, .inl mf47)), (m48, .inl (mc48, 6, .inl mf48)), (m49, .inl (mc49, 6, .inl mf49)), (m50, .inl (mc50, 6, .inl mf50))] s.heap := hP
  have hl := lv_entry ([.ref jM, .int (nI (pj))]) (n := 3) (Nat.le_of_ble_eq_true rfl)
  rw [lg_entry_eq]
  generalize (lg_sl ([.ref jM, .int (nI (pj))]) ++ List.replicate (3 - (lg_sl ([.ref jM, .int (nI (pj))])).length) Slot.unset).toArray = ls at hl ⊢
  have hl : lv_has ls 3 [(0, .ref jM), (1, .int (nI (pj)))] := hl
  refine kQ (fun Q hQ => ?_)
  refine lv_iconst (v := 0) hx hb dX10_isAlone_0 kc_i_0 ?_
  refine lv_istore_n hx hb dX10_isAlone_1 rfl hl kc_l_2_3 (kTo [(2, .int 0), (0, .ref jM), (1, .int (nI (pj)))]) (fun ls hl => ?_)
  have lp_k_1 : ∀ (n9 : Nat) (i : Nat) (ivk_1_0 : i ≤ mps) (ivk_1_1 : kAlR mf21 pj i = true) (ls : Array Slot) (_ : lv_has ls 3 [(2, .int (nI (i))), (0, .ref jM), (1, .int (nI (pj)))]) (_ : mps - i < n9), W p l e (headSpec w_s_isAlone10x ({ frames := 2, cells := 0, slots := 0, locals := 120 })).room s m (#[.ref jM, .int (nI (pj))] : Array Value) below meth c s.heap [] 0 0 Q (F0 m 2 ls []) := by
    intro n9
    induction n9 with
    | zero => intro i ivk_1_0 ivk_1_1 ls hl hm9; exact absurd hm9 (Nat.not_lt_zero _)
    | succ n9 ih_k_1 =>
      intro i ivk_1_0 ivk_1_1 ls hl hm9
      refine lv_iload_n hx hb dX10_isAlone_2 rfl (lv_at hl 0 rfl) ?_
      refine lv_aload_n hx hb dX10_isAlone_3 rfl (lv_at hl 1 rfl) ?_
      refine va_get (D := (dC, dI)) (ci := 10) (v := .int (nI (mps))) (C := RX10) (T := TX10) (N := 52) hx hb hts (fun _ h => List.mem_cons_of_mem _ (List.mem_append_right _ h)) hown hK hP 0 rfl rfl 26 kc_l_26_52 (hts (.fieldLink RX10 250 "NotEndedModel" "persons" "I") (List.mem_cons_of_mem _ (List.mem_append_left _ (List.mem_of_getElem? (i := 0) rfl)))) (fun _ h9 => h9) rfl dX10_isAlone_4 ?_
      refine lv_icmp_ge (tgt := 38) hx hb dX10_isAlone_7 kc_t_7_31 (fun c_2 => ?_) (fun c_2 => ?_)
      · have bd_4 : mps < 2147483648 := by omega
        have bd_5 : i < 2147483648 := by omega
        have hn_3 := kle (a := mps) (b := i) bd_4 bd_5 c_2
        refine lv_iconst (v := 1) hx hb dX10_isAlone_38 kc_i_1 ?_
        rw [hQ]
        exact W.zret (v := 1) hx hb hr rfl (fun t ht hW => ⟨1, rfl, ⟨fun _ => (show i = mps by omega) ▸ ivk_1_1, fun _ => by decide⟩, ht⟩) (fun _ h => nomatch h) dX10_isAlone_39
      · have bd_7 : mps < 2147483648 := by omega
        have bd_8 : i < 2147483648 := by omega
        have hn_6 := knle (a := mps) (b := i) bd_7 bd_8 c_2
        refine lv_iload_n hx hb dX10_isAlone_10 rfl (lv_at hl 0 rfl) ?_
        refine lv_iload_n hx hb dX10_isAlone_11 rfl (lv_at hl 2 rfl) ?_
        refine lv_icmp_eq (tgt := 32) hx hb dX10_isAlone_12 kc_t_12_20 (fun c_9 => ?_) (fun c_9 => ?_)
        · have bd_11 : pj < 2147483648 := by omega
          have hn_10 := keq (a := i) (b := pj) bd_8 bd_11 c_9
          refine lv_iinc (v := nI (i + 1)) hx hb dX10_isAlone_32 hl (k := 0) rfl (kInc _ 1) kc_l_2_3 (kTo [(2, .int (nI (i + 1))), (0, .ref jM), (1, .int (nI (pj)))]) (fun ls hl => ?_)
          refine lv_goto (tgt := 2) hx hb dX10_isAlone_35 kc_t_35_m33 ?_
          exact ih_k_1 (i + 1) (by omega) ((kAlR_s (Or.inl (by omega))).trans ivk_1_1) ls (lv_sub hl [0, 1, 2] rfl) (by omega)
        · have bd_13 : pj < 2147483648 := by omega
          have hn_12 := kneq (a := i) (b := pj) bd_8 bd_13 c_9
          have hn9 : ¬ i = pj := by omega
          refine lv_aload_n hx hb dX10_isAlone_15 rfl (lv_at hl 1 rfl) ?_
          refine va_get (D := (dC, dI)) (ci := 10) (v := .ref m21) (C := RX10) (T := TX10) (N := 52) hx hb hts (fun _ h => List.mem_cons_of_mem _ (List.mem_append_right _ h)) hown hK hP 0 rfl rfl 21 kc_l_21_52 (hts (.fieldLink RX10 43 "NotEndedModel" "toldHouse" "[I") (List.mem_cons_of_mem _ (List.mem_append_left _ (List.mem_of_getElem? (i := 1) rfl)))) (fun _ h9 => h9) rfl dX10_isAlone_16 ?_
          refine lv_iload_n hx hb dX10_isAlone_19 rfl (lv_at hl 0 rfl) ?_
          have bd_14 : i < 10 := by omega
          refine va_iald hx hb hK hP 7 6 rfl rfl (vp_in_nI (n := i) (N := 10) bd_14 kc_31_10) dX10_isAlone_20 ?_
          refine lv_topi (fun x_15 ex_15 => ?_)
          have ha9 : x_15 = mf21 i := by rw [ex_15, nI_clamp (n := i) (by omega)]
          refine lv_aload_n hx hb dX10_isAlone_21 rfl (lv_at hl 1 rfl) ?_
          refine va_get (D := (dC, dI)) (ci := 10) (v := .ref m21) (C := RX10) (T := TX10) (N := 52) hx hb hts (fun _ h => List.mem_cons_of_mem _ (List.mem_append_right _ h)) hown hK hP 0 rfl rfl 21 kc_l_21_52 (hts (.fieldLink RX10 43 "NotEndedModel" "toldHouse" "[I") (List.mem_cons_of_mem _ (List.mem_append_left _ (List.mem_of_getElem? (i := 1) rfl)))) (fun _ h9 => h9) rfl dX10_isAlone_22 ?_
          refine lv_iload_n hx hb dX10_isAlone_25 rfl (lv_at hl 2 rfl) ?_
          have bd_16 : pj < 10 := by omega
          refine va_iald hx hb hK hP 7 6 rfl rfl (vp_in_nI (n := pj) (N := 10) bd_16 kc_31_10) dX10_isAlone_26 ?_
          refine lv_topi (fun x_17 ex_17 => ?_)
          have hb9 : x_17 = mf21 pj := by rw [ex_17, nI_clamp (n := pj) (by omega)]
          refine lv_icmp_ne (tgt := 32) hx hb dX10_isAlone_27 kc_t_27_5 (fun c_18 => ?_) (fun c_18 => ?_)
          · refine lv_iinc (v := nI (i + 1)) hx hb dX10_isAlone_32 hl (k := 0) rfl (kInc _ 1) kc_l_2_3 (kTo [(2, .int (nI (i + 1))), (0, .ref jM), (1, .int (nI (pj)))]) (fun ls hl => ?_)
            refine lv_goto (tgt := 2) hx hb dX10_isAlone_35 kc_t_35_m33 ?_
            exact ih_k_1 (i + 1) (by omega) ((kAlR_s (Or.inr (fun z => c_18 (ha9.trans (z.trans hb9.symm))))).trans ivk_1_1) ls (lv_sub hl [0, 1, 2] rfl) (by omega)
          · refine lv_iconst (v := 0) hx hb dX10_isAlone_30 kc_i_0 ?_
            rw [hQ]
            exact W.zret (v := 0) hx hb hr rfl (fun t ht hW => ⟨0, rfl, ⟨fun z => absurd rfl z, fun z => absurd (kAlR_m mps (show i + 1 ≤ mps by omega) z) (kAlR_n hn9 (ha9.symm.trans (c_18.trans hb9)))⟩, ht⟩) (fun _ h => nomatch h) dX10_isAlone_31
  exact lp_k_1 (mps - 0 + 1) 0 (by omega) rfl ls (lv_sub hl [0, 1, 2] rfl) (by omega)

def w_s_isSo10x : List Cond := .code yX10_isSo cX10_isSo 3 (some .boolean) :: ([.fieldLink RX10 86 "NotEndedModel" "notePerson" "[I", .fieldLink RX10 92 "NotEndedModel" "noteKind" "[I", .fieldLink RX10 65 "NotEndedModel" "house" "[I", .fieldLink RX10 95 "NotEndedModel" "noteValue" "[I", .fieldLink RX10 59 "NotEndedModel" "holds" "[I", .methodLink RX10 334 Lib.Math.abs.name, .static Lib.Math.abs.name, .initialized RJ9, .code Lib.Math.abs.name Lib.Math.abs.code 1 (some .int), .fieldLink RX10 98 "NotEndedModel" "noteOff" "[I"] ++ (wsX100))
theorem gw_s_isSo10x : (w_s_isSo10x).all goodWord = true := kGc rfl (kGa (by decide +kernel) gw_wsX100)
set_option maxHeartbeats 4000000 in
set_option maxRecDepth 100000 in
theorem s_isSo10x (l : Launch) (dC : Nat → ClassId) (dI : Nat → Nat → Nat) (jM : Nat) (th : Int32) (thr : Int32) (xx : Int64) (v5 : Value) (v9 : Value) (v10 : Value) (v11 : Value) (v12 : Value) (v13 : Value) (v14 : Value) (v15 : Value) (v16 : Value) (v17 : Value) (v18 : Value) (m1 : Nat) (m2 : Nat) (m3 : Nat) (m4 : Nat) (m19 : Nat) (m20 : Nat) (m21 : Nat) (m22 : Nat) (m23 : Nat) (m24 : Nat) (m25 : Nat) (m28 : Nat) (m29 : Nat) (m30 : Nat) (m31 : Nat) (m32 : Nat) (m33 : Nat) (m34 : Nat) (m35 : Nat) (m36 : Nat) (m40 : Nat) (m41 : Nat) (m42 : Nat) (m43 : Nat) (m44 : Nat) (m46 : Nat) (m47 : Nat) (m48 : Nat) (m49 : Nat) (m50 : Nat) (mc1 : ClassId) (mc2 : ClassId) (mc3 : ClassId) (mc4 : ClassId) (mc19 : ClassId) (mc20 : ClassId) (mc21 : ClassId) (mc22 : ClassId) (mc23 : ClassId) (mc24 : ClassId) (mc25 : ClassId) (mc28 : ClassId) (mc29 : ClassId) (mc30 : ClassId) (mc31 : ClassId) (mc32 : ClassId) (mc33 : ClassId) (mc34 : ClassId) (mc35 : ClassId) (mc36 : ClassId) (mc40 : ClassId) (mc41 : ClassId) (mc42 : ClassId) (mc43 : ClassId) (mc44 : ClassId) (mc46 : ClassId) (mc47 : ClassId) (mc48 : ClassId) (mc49 : ClassId) (mc50 : ClassId) (mf1 : Nat → Int32) (mf2 : Nat → Int32) (mf3 : Nat → Int32) (mf4 : Nat → Int32) (mf19 : Nat → Int32) (mf20 : Nat → Int32) (mf21 : Nat → Int32) (mf22 : Nat → Int32) (mf23 : Nat → Int32) (mf24 : Nat → Int32) (mf25 : Nat → Int32) (mf28 : Nat → Int32) (mf29 : Nat → Int32) (mf30 : Nat → Int32) (mf31 : Nat → Int32) (mf32 : Nat → Int32) (mf33 : Nat → Int32) (mf34 : Nat → Int32) (mf35 : Nat → Int32) (mf36 : Nat → Int32) (mf40 : Nat → Int32) (mf41 : Nat → Int32) (mf42 : Nat → Int32) (mf43 : Nat → Int32) (mf44 : Nat → Int32) (mf46 : Nat → Int64) (mf47 : Nat → Int32) (mf48 : Nat → Int32) (mf49 : Nat → Int32) (mf50 : Nat → Int32) (ml : Nat) (mkl : Nat) (mku : Nat) (mps : Nat) (mkw : Nat) (ho : Nat) (mkn : Nat) (mka : Nat) (hml : ml ≤ 120) (hmkl : mkl ≤ 6) (hmku : mku ≤ 8) (hmps : mps ≤ 10) (hmkw : mkw ≤ 4) (hho : ho ≤ 48) (hmkn : mkn ≤ 20) (hmka : mka ≤ 6) (hNp : ∀ k : Nat, k < mkn → ∃ v : Nat, v < mps ∧ mf40 k = nI v) (S : kRst) (hRR : kRp mps S mf28 mf29 mf30 mf31) (pk : Nat) (hpk : pk < mkn) : Met l yX10_isSo w_s_isSo10x ({ frames := 2, cells := 0, slots := 0, locals := 120 }) (kR dC dI [.ref jM, .int (nI (pk))] [(jM, .inr (10, [.int th, .ref m1, .ref m2, .ref m3, .ref m4, v5, .int (nI (ml)), .int (nI (mkl)), .int (nI (mku)), v9, v10, v11, v12, v13, v14, v15, v16, v17, v18, .ref m19, .ref m20, .ref m21, .ref m22, .ref m23, .ref m24, .ref m25, .int (nI (mps)), .int (nI (mkw)), .ref m28, .ref m29, .ref m30, .ref m31, .ref m32, .ref m33, .ref m34, .ref m35, .ref m36, .int thr, .int (nI (ho)), .long xx, .ref m40, .ref m41, .ref m42, .ref m43, .ref m44, .int (nI (mkn)), .ref m46, .ref m47, .ref m48, .ref m49, .ref m50, .int (nI (mka))])), (m1, .inl (mc1, 120, .inl mf1)), (m2, .inl (mc2, 1680, .inl mf2)), (m3, .inl (mc3, 14, .inl mf3)), (m4, .inl (mc4, 128, .inl mf4)), (m19, .inl (mc19, 10, .inl mf19)), (m20, .inl (mc20, 10, .inl mf20)), (m21, .inl (mc21, 10, .inl mf21)), (m22, .inl (mc22, 10, .inl mf22)), (m23, .inl (mc23, 10, .inl mf23)), (m24, .inl (mc24, 4, .inl mf24)), (m25, .inl (mc25, 10, .inl mf25)), (m28, .inl (mc28, 10, .inl mf28)), (m29, .inl (mc29, 10, .inl mf29)), (m30, .inl (mc30, 10, .inl mf30)), (m31, .inl (mc31, 10, .inl mf31)), (m32, .inl (mc32, 10, .inl mf32)), (m33, .inl (mc33, 10, .inl mf33)), (m34, .inl (mc34, 10, .inl mf34)), (m35, .inl (mc35, 10, .inl mf35)), (m36, .inl (mc36, 10, .inl mf36)), (m40, .inl (mc40, 20, .inl mf40)), (m41, .inl (mc41, 20, .inl mf41)), (m42, .inl (mc42, 20, .inl mf42)), (m43, .inl (mc43, 20, .inl mf43)), (m44, .inl (mc44, 20, .inl mf44)), (m46, .inl (mc46, 14, .inr (.inl mf46))), (m47, .inl (mc47, 6, .inl mf47)), (m48, .inl (mc48, 6, .inl mf48)), (m49, .inl (mc49, 6, .inl mf49)), (m50, .inl (mc50, 6, .inl mf50))] [(mc1, .byte), (mc2, .byte), (mc3, .int), (mc4, .int), (mc19, .int), (mc20, .int), (mc21, .int), (mc22, .int), (mc23, .int), (mc24, .int), (mc25, .boolean), (mc28, .int), (mc29, .int), (mc30, .int), (mc31, .int), (mc32, .int), (mc33, .int), (mc34, .int), (mc35, .int), (mc36, .int), (mc40, .int), (mc41, .int), (mc42, .int), (mc43, .int), (mc44, .int), (mc46, .long), (mc47, .int), (mc48, .int), (mc49, .int), (mc50, .int)] kT) (vp_Si (fun r : Int32 => (¬ r = 0 ↔ kSoB S (mf40 pk) (mf42 pk) (mf43 pk) (mf44 pk) = true))) 0 0 (fun _ => False) := by
  refine Met.ofW (cc := cX10_isSo) (maxL := 3) (ret := (some .boolean)) (by decide) rfl ?_
  intro p e s m args below meth c s₁ B hml hv
  obtain ⟨rfl, hP, hK, hX⟩ := hv
  have hx := B.exec
  have hb := B.bytes
  have hr := B.returns
  have hts := atoms_spec (ws := w_s_isSo10x) B.pre
  have hown : s.vm.findClass RX10 = some m.cls := findClass_of_methodNamed B.named
  have hlocks := B.notSynchronized
  have hP : va_P (dC, dI) vwCl [(jM, .inr (10, [.int th, .ref m1, .ref m2, .ref m3, .ref m4, v5, .int (nI (ml)), .int (nI (mkl)), .int (nI (mku)), v9, v10, v11, v12, v13, v14, v15, v16, v17, v18, .ref m19, .ref m20, .ref m21, .ref m22, .ref m23, .ref m24, .ref m25, .int (nI (mps)), .int (nI (mkw)), .ref m28, .ref m29, .ref m30, .ref m31, .ref m32, .ref m33, .ref m34, .ref m35, .ref m36, .int thr, .int (nI (ho)), .long xx, .ref m40, .ref m41, .ref m42, .ref m43, .ref m44, .int (nI (mkn)), .ref m46, .ref m47, .ref m48, .ref m49, .ref m50, .int (nI (mka))])), (m1, .inl (mc1, 120, .inl mf1)), (m2, .inl (mc2, 1680, .inl mf2)), (m3, .inl (mc3, 14, .inl mf3)), (m4, .inl (mc4, 128, .inl mf4)), (m19, .inl (mc19, 10, .inl mf19)), (m20, .inl (mc20, 10, .inl mf20)), (m21, .inl (mc21, 10, .inl mf21)), (m22, .inl (mc22, 10, .inl mf22)), (m23, .inl (mc23, 10, .inl mf23)), (m24, .inl (mc24, 4, .inl mf24)), (m25, .inl (mc25, 10, .inl mf25)), (m28, .inl (mc28, 10, .inl mf28)), (m29, .inl (mc29, 10, .inl mf29)), (m30, .inl (mc30, 10, .inl mf30)), (m31, .inl (mc31, 10, .inl mf31)), (m32, .inl (mc32, 10, .inl mf32)), (m33, .inl (mc33, 10, .inl mf33)), (m34, .inl (mc34, 10, .inl mf34)), (m35, .inl (mc35, 10, .inl mf35)), (m36, .inl (mc36, 10, .inl mf36)), (m40, .inl (mc40, 20, .inl mf40)), (m41, .inl (mc41, 20, .inl mf41)), (m42, .inl (mc42, 20, .inl mf42)), (m43, .inl (mc43, 20, .inl mf43)), (m44, .inl (mc44, 20, .inl mf44)), (m46, .inl (mc46, 14, .inr (.inl mf46))), (m47, .inl (mc47, 6, .inl mf47)), (m48, .inl (mc48, 6, .inl mf48)), (m49, .inl (mc49, 6, .inl mf49)), (m50, .inl (mc50, 6, .inl mf50))] s.heap := hP
  have hl := lv_entry ([.ref jM, .int (nI (pk))]) (n := 3) (Nat.le_of_ble_eq_true rfl)
  rw [lg_entry_eq]
  generalize (lg_sl ([.ref jM, .int (nI (pk))]) ++ List.replicate (3 - (lg_sl ([.ref jM, .int (nI (pk))])).length) Slot.unset).toArray = ls at hl ⊢
  have hl : lv_has ls 3 [(0, .ref jM), (1, .int (nI (pk)))] := hl
  refine kQ (fun Q hQ => ?_)
  refine lv_aload_n hx hb dX10_isSo_0 rfl (lv_at hl 0 rfl) ?_
  refine va_get (D := (dC, dI)) (ci := 10) (v := .ref m40) (C := RX10) (T := TX10) (N := 52) hx hb hts (fun _ h => List.mem_cons_of_mem _ (List.mem_append_right _ h)) hown hK hP 0 rfl rfl 40 kc_l_40_52 (hts (.fieldLink RX10 86 "NotEndedModel" "notePerson" "[I") (List.mem_cons_of_mem _ (List.mem_append_left _ (List.mem_of_getElem? (i := 0) rfl)))) (fun _ h9 => h9) rfl dX10_isSo_1 ?_
  refine lv_iload_n hx hb dX10_isSo_4 rfl (lv_at hl 1 rfl) ?_
  have bd_1 : pk < 20 := by omega
  refine va_iald hx hb hK hP 21 20 rfl rfl (vp_in_nI (n := pk) (N := 20) bd_1 kc_31_20) dX10_isSo_5 ?_
  refine lv_topi (fun x_2 ex_2 => ?_)
  obtain ⟨v9, hv9, ev9⟩ := hNp pk hpk
  rw [nI_clamp (n := pk) (by omega), ev9] at ex_2
  subst ex_2
  refine lv_istore_n hx hb dX10_isSo_6 rfl hl kc_l_2_3 (kTo [(2, .int (nI (v9))), (0, .ref jM), (1, .int (nI (pk)))]) (fun ls hl => ?_)
  refine lv_aload_n hx hb dX10_isSo_7 rfl (lv_at hl 1 rfl) ?_
  refine va_get (D := (dC, dI)) (ci := 10) (v := .ref m42) (C := RX10) (T := TX10) (N := 52) hx hb hts (fun _ h => List.mem_cons_of_mem _ (List.mem_append_right _ h)) hown hK hP 0 rfl rfl 42 kc_l_42_52 (hts (.fieldLink RX10 92 "NotEndedModel" "noteKind" "[I") (List.mem_cons_of_mem _ (List.mem_append_left _ (List.mem_of_getElem? (i := 1) rfl)))) (fun _ h9 => h9) rfl dX10_isSo_8 ?_
  refine lv_iload_n hx hb dX10_isSo_11 rfl (lv_at hl 2 rfl) ?_
  refine va_iald hx hb hK hP 23 22 rfl rfl (vp_in_nI (n := pk) (N := 20) bd_1 kc_31_20) dX10_isSo_12 ?_
  refine lv_topi (fun x_3 ex_3 => ?_)
  have hk9 : x_3 = mf42 pk := by rw [ex_3, nI_clamp (n := pk) (by omega)]
  refine lv_if_ne (tgt := 49) hx hb dX10_isSo_13 kc_t_13_36 (fun c_4 => ?_) (fun c_4 => ?_)
  · refine lv_aload_n hx hb dX10_isSo_49 rfl (lv_at hl 1 rfl) ?_
    refine va_get (D := (dC, dI)) (ci := 10) (v := .ref m30) (C := RX10) (T := TX10) (N := 52) hx hb hts (fun _ h => List.mem_cons_of_mem _ (List.mem_append_right _ h)) hown hK hP 0 rfl rfl 30 kc_l_30_52 (hts (.fieldLink RX10 65 "NotEndedModel" "house" "[I") (List.mem_cons_of_mem _ (List.mem_append_left _ (List.mem_of_getElem? (i := 2) rfl)))) (fun _ h9 => h9) rfl dX10_isSo_50 ?_
    refine lv_iload_n hx hb dX10_isSo_53 rfl (lv_at hl 0 rfl) ?_
    have bd_5 : v9 < 10 := by omega
    refine va_iald hx hb hK hP 14 13 rfl rfl (vp_in_nI (n := v9) (N := 10) bd_5 kc_31_10) dX10_isSo_54 ?_
    refine lv_topi (fun x_6 ex_6 => ?_)
    have hr9 : x_6 = mf30 v9 := by rw [ex_6, nI_clamp (n := v9) (by omega)]
    refine lv_aload_n hx hb dX10_isSo_55 rfl (lv_at hl 1 rfl) ?_
    refine va_get (D := (dC, dI)) (ci := 10) (v := .ref m43) (C := RX10) (T := TX10) (N := 52) hx hb hts (fun _ h => List.mem_cons_of_mem _ (List.mem_append_right _ h)) hown hK hP 0 rfl rfl 43 kc_l_43_52 (hts (.fieldLink RX10 95 "NotEndedModel" "noteValue" "[I") (List.mem_cons_of_mem _ (List.mem_append_left _ (List.mem_of_getElem? (i := 3) rfl)))) (fun _ h9 => h9) rfl dX10_isSo_56 ?_
    refine lv_iload_n hx hb dX10_isSo_59 rfl (lv_at hl 2 rfl) ?_
    refine va_iald hx hb hK hP 24 23 rfl rfl (vp_in_nI (n := pk) (N := 20) bd_1 kc_31_20) dX10_isSo_60 ?_
    refine lv_topi (fun x_7 ex_7 => ?_)
    have hv8 : x_7 = mf43 pk := by rw [ex_7, nI_clamp (n := pk) (by omega)]
    refine lv_icmp_ne (tgt := 68) hx hb dX10_isSo_61 kc_t_61_7 (fun c_8 => ?_) (fun c_8 => ?_)
    · refine lv_iconst (v := 0) hx hb dX10_isSo_68 kc_i_0 ?_
      rw [hQ]
      exact W.zret (v := 0) hx hb hr rfl (fun t ht hW => ⟨0, rfl, ⟨fun z => absurd rfl z, fun z => absurd ((kSoP (by omega) ev9 hk9 c_4 (hr9.trans (hRR v9 hv9).2.2.1) hv8).mp z) c_8⟩, ht⟩) (fun _ h => nomatch h) dX10_isSo_69
    · refine lv_iconst (v := 1) hx hb dX10_isSo_64 kc_i_1 ?_
      refine lv_goto (tgt := 69) hx hb dX10_isSo_65 kc_t_65_4 ?_
      rw [hQ]
      exact W.zret (v := 1) hx hb hr rfl (fun t ht hW => ⟨1, rfl, ⟨fun _ => (kSoP (by omega) ev9 hk9 c_4 (hr9.trans (hRR v9 hv9).2.2.1) hv8).mpr c_8, fun _ => by decide⟩, ht⟩) (fun _ h => nomatch h) dX10_isSo_69
  · refine lv_aload_n hx hb dX10_isSo_16 rfl (lv_at hl 1 rfl) ?_
    refine va_get (D := (dC, dI)) (ci := 10) (v := .ref m28) (C := RX10) (T := TX10) (N := 52) hx hb hts (fun _ h => List.mem_cons_of_mem _ (List.mem_append_right _ h)) hown hK hP 0 rfl rfl 28 kc_l_28_52 (hts (.fieldLink RX10 59 "NotEndedModel" "holds" "[I") (List.mem_cons_of_mem _ (List.mem_append_left _ (List.mem_of_getElem? (i := 4) rfl)))) (fun _ h9 => h9) rfl dX10_isSo_17 ?_
    refine lv_iload_n hx hb dX10_isSo_20 rfl (lv_at hl 0 rfl) ?_
    have bd_9 : v9 < 10 := by omega
    refine va_iald hx hb hK hP 12 11 rfl rfl (vp_in_nI (n := v9) (N := 10) bd_9 kc_31_10) dX10_isSo_21 ?_
    refine lv_topi (fun x_10 ex_10 => ?_)
    have hr9 : x_10 = mf28 v9 := by rw [ex_10, nI_clamp (n := v9) (by omega)]
    refine lv_aload_n hx hb dX10_isSo_22 rfl (lv_at hl 1 rfl) ?_
    refine va_get (D := (dC, dI)) (ci := 10) (v := .ref m43) (C := RX10) (T := TX10) (N := 52) hx hb hts (fun _ h => List.mem_cons_of_mem _ (List.mem_append_right _ h)) hown hK hP 0 rfl rfl 43 kc_l_43_52 (hts (.fieldLink RX10 95 "NotEndedModel" "noteValue" "[I") (List.mem_cons_of_mem _ (List.mem_append_left _ (List.mem_of_getElem? (i := 3) rfl)))) (fun _ h9 => h9) rfl dX10_isSo_23 ?_
    refine lv_iload_n hx hb dX10_isSo_26 rfl (lv_at hl 2 rfl) ?_
    refine va_iald hx hb hK hP 24 23 rfl rfl (vp_in_nI (n := pk) (N := 20) bd_1 kc_31_20) dX10_isSo_27 ?_
    refine lv_topi (fun x_11 ex_11 => ?_)
    have hv8 : x_11 = mf43 pk := by rw [ex_11, nI_clamp (n := pk) (by omega)]
    refine lv_isub hx hb dX10_isSo_28 ?_
    refine lv_topi (fun x_12 ex_12 => ?_)
    refine va_mabs hx hb (hml.trans hl.1.symm) hown (hts (.methodLink RX10 334 Lib.Math.abs.name) (List.mem_cons_of_mem _ (List.mem_append_left _ (List.mem_of_getElem? (i := 5) rfl)))) (hts (.static Lib.Math.abs.name) (List.mem_cons_of_mem _ (List.mem_append_left _ (List.mem_of_getElem? (i := 6) rfl)))) (hts (.initialized RJ9) (List.mem_cons_of_mem _ (List.mem_append_left _ (List.mem_of_getElem? (i := 7) rfl)))) (hts (.code Lib.Math.abs.name Lib.Math.abs.code 1 (some .int)) (List.mem_cons_of_mem _ (List.mem_append_left _ (List.mem_of_getElem? (i := 8) rfl)))) (Nat.le_of_ble_eq_true rfl) (Nat.le_of_ble_eq_true rfl) (Nat.le_of_ble_eq_true rfl) (Nat.le_of_ble_eq_true rfl) dX10_isSo_29 ?_
    refine lv_topi (fun x_13 ex_13 => ?_)
    refine lv_aload_n hx hb dX10_isSo_32 rfl (lv_at hl 1 rfl) ?_
    refine va_get (D := (dC, dI)) (ci := 10) (v := .ref m44) (C := RX10) (T := TX10) (N := 52) hx hb hts (fun _ h => List.mem_cons_of_mem _ (List.mem_append_right _ h)) hown hK hP 0 rfl rfl 44 kc_l_44_52 (hts (.fieldLink RX10 98 "NotEndedModel" "noteOff" "[I") (List.mem_cons_of_mem _ (List.mem_append_left _ (List.mem_of_getElem? (i := 9) rfl)))) (fun _ h9 => h9) rfl dX10_isSo_33 ?_
    refine lv_iload_n hx hb dX10_isSo_36 rfl (lv_at hl 2 rfl) ?_
    refine va_iald hx hb hK hP 25 24 rfl rfl (vp_in_nI (n := pk) (N := 20) bd_1 kc_31_20) dX10_isSo_37 ?_
    refine lv_topi (fun x_14 ex_14 => ?_)
    have ho8 : x_14 = mf44 pk := by rw [ex_14, nI_clamp (n := pk) (by omega)]
    refine lv_icmp_gt (tgt := 45) hx hb dX10_isSo_38 kc_t_38_7 (fun c_15 => ?_) (fun c_15 => ?_)
    · refine lv_iconst (v := 0) hx hb dX10_isSo_45 kc_i_0 ?_
      refine lv_goto (tgt := 69) hx hb dX10_isSo_46 kc_t_46_23 ?_
      rw [hQ]
      exact W.zret (v := 0) hx hb hr rfl (fun t ht hW => ⟨0, rfl, ⟨fun z => absurd rfl z, fun z => absurd ((kSoH (by omega) ev9 hk9 c_4 ex_13 ex_12 (hr9.trans (hRR v9 hv9).1) hv8 ho8).mp z) (Int32.not_le.mpr c_15)⟩, ht⟩) (fun _ h => nomatch h) dX10_isSo_69
    · refine lv_iconst (v := 1) hx hb dX10_isSo_41 kc_i_1 ?_
      refine lv_goto (tgt := 69) hx hb dX10_isSo_42 kc_t_42_27 ?_
      rw [hQ]
      exact W.zret (v := 1) hx hb hr rfl (fun t ht hW => ⟨1, rfl, ⟨fun _ => (kSoH (by omega) ev9 hk9 c_4 ex_13 ex_12 (hr9.trans (hRR v9 hv9).1) hv8 ho8).mpr (Int32.not_lt.mp c_15), fun _ => by decide⟩, ht⟩) (fun _ h => nomatch h) dX10_isSo_69

def w_s_every10n : List Cond := .code yX10_everybody cX10_everybody 1 (some .int) :: ([.fieldLink RX10 250 "NotEndedModel" "persons" "I"] ++ (wsX100))
theorem gw_s_every10n : (w_s_every10n).all goodWord = true := kGc rfl (kGa (by decide +kernel) gw_wsX100)
set_option maxHeartbeats 4000000 in
set_option maxRecDepth 100000 in
theorem s_every10n (l : Launch) (dC : Nat → ClassId) (dI : Nat → Nat → Nat) (jM : Nat) (th : Int32) (thr : Int32) (xx : Int64) (v5 : Value) (v9 : Value) (v10 : Value) (v11 : Value) (v12 : Value) (v13 : Value) (v14 : Value) (v15 : Value) (v16 : Value) (v17 : Value) (v18 : Value) (m1 : Nat) (m2 : Nat) (m3 : Nat) (m4 : Nat) (m19 : Nat) (m20 : Nat) (m21 : Nat) (m22 : Nat) (m23 : Nat) (m24 : Nat) (m25 : Nat) (m28 : Nat) (m29 : Nat) (m30 : Nat) (m31 : Nat) (m32 : Nat) (m33 : Nat) (m34 : Nat) (m35 : Nat) (m36 : Nat) (m40 : Nat) (m41 : Nat) (m42 : Nat) (m43 : Nat) (m44 : Nat) (m46 : Nat) (m47 : Nat) (m48 : Nat) (m49 : Nat) (m50 : Nat) (mc1 : ClassId) (mc2 : ClassId) (mc3 : ClassId) (mc4 : ClassId) (mc19 : ClassId) (mc20 : ClassId) (mc21 : ClassId) (mc22 : ClassId) (mc23 : ClassId) (mc24 : ClassId) (mc25 : ClassId) (mc28 : ClassId) (mc29 : ClassId) (mc30 : ClassId) (mc31 : ClassId) (mc32 : ClassId) (mc33 : ClassId) (mc34 : ClassId) (mc35 : ClassId) (mc36 : ClassId) (mc40 : ClassId) (mc41 : ClassId) (mc42 : ClassId) (mc43 : ClassId) (mc44 : ClassId) (mc46 : ClassId) (mc47 : ClassId) (mc48 : ClassId) (mc49 : ClassId) (mc50 : ClassId) (mf1 : Nat → Int32) (mf2 : Nat → Int32) (mf3 : Nat → Int32) (mf4 : Nat → Int32) (mf19 : Nat → Int32) (mf20 : Nat → Int32) (mf21 : Nat → Int32) (mf22 : Nat → Int32) (mf23 : Nat → Int32) (mf24 : Nat → Int32) (mf25 : Nat → Int32) (mf28 : Nat → Int32) (mf29 : Nat → Int32) (mf30 : Nat → Int32) (mf31 : Nat → Int32) (mf32 : Nat → Int32) (mf33 : Nat → Int32) (mf34 : Nat → Int32) (mf35 : Nat → Int32) (mf36 : Nat → Int32) (mf40 : Nat → Int32) (mf41 : Nat → Int32) (mf42 : Nat → Int32) (mf43 : Nat → Int32) (mf44 : Nat → Int32) (mf46 : Nat → Int64) (mf47 : Nat → Int32) (mf48 : Nat → Int32) (mf49 : Nat → Int32) (mf50 : Nat → Int32) (ml : Nat) (mkl : Nat) (mku : Nat) (mps : Nat) (mkw : Nat) (ho : Nat) (mkn : Nat) (mka : Nat) (hml : ml ≤ 120) (hmkl : mkl ≤ 6) (hmku : mku ≤ 8) (hmps : mps ≤ 10) (hmkw : mkw ≤ 4) (hho : ho ≤ 48) (hmkn : mkn ≤ 20) (hmka : mka ≤ 6) : Met l yX10_everybody w_s_every10n ({ frames := 1, cells := 0, slots := 0, locals := 60 }) (kR dC dI [.ref jM] [(jM, .inr (10, [.int th, .ref m1, .ref m2, .ref m3, .ref m4, v5, .int (nI (ml)), .int (nI (mkl)), .int (nI (mku)), v9, v10, v11, v12, v13, v14, v15, v16, v17, v18, .ref m19, .ref m20, .ref m21, .ref m22, .ref m23, .ref m24, .ref m25, .int (nI (mps)), .int (nI (mkw)), .ref m28, .ref m29, .ref m30, .ref m31, .ref m32, .ref m33, .ref m34, .ref m35, .ref m36, .int thr, .int (nI (ho)), .long xx, .ref m40, .ref m41, .ref m42, .ref m43, .ref m44, .int (nI (mkn)), .ref m46, .ref m47, .ref m48, .ref m49, .ref m50, .int (nI (mka))])), (m1, .inl (mc1, 120, .inl mf1)), (m2, .inl (mc2, 1680, .inl mf2)), (m3, .inl (mc3, 14, .inl mf3)), (m4, .inl (mc4, 128, .inl mf4)), (m19, .inl (mc19, 10, .inl mf19)), (m20, .inl (mc20, 10, .inl mf20)), (m21, .inl (mc21, 10, .inl mf21)), (m22, .inl (mc22, 10, .inl mf22)), (m23, .inl (mc23, 10, .inl mf23)), (m24, .inl (mc24, 4, .inl mf24)), (m25, .inl (mc25, 10, .inl mf25)), (m28, .inl (mc28, 10, .inl mf28)), (m29, .inl (mc29, 10, .inl mf29)), (m30, .inl (mc30, 10, .inl mf30)), (m31, .inl (mc31, 10, .inl mf31)), (m32, .inl (mc32, 10, .inl mf32)), (m33, .inl (mc33, 10, .inl mf33)), (m34, .inl (mc34, 10, .inl mf34)), (m35, .inl (mc35, 10, .inl mf35)), (m36, .inl (mc36, 10, .inl mf36)), (m40, .inl (mc40, 20, .inl mf40)), (m41, .inl (mc41, 20, .inl mf41)), (m42, .inl (mc42, 20, .inl mf42)), (m43, .inl (mc43, 20, .inl mf43)), (m44, .inl (mc44, 20, .inl mf44)), (m46, .inl (mc46, 14, .inr (.inl mf46))), (m47, .inl (mc47, 6, .inl mf47)), (m48, .inl (mc48, 6, .inl mf48)), (m49, .inl (mc49, 6, .inl mf49)), (m50, .inl (mc50, 6, .inl mf50))] [(mc1, .byte), (mc2, .byte), (mc3, .int), (mc4, .int), (mc19, .int), (mc20, .int), (mc21, .int), (mc22, .int), (mc23, .int), (mc24, .int), (mc25, .boolean), (mc28, .int), (mc29, .int), (mc30, .int), (mc31, .int), (mc32, .int), (mc33, .int), (mc34, .int), (mc35, .int), (mc36, .int), (mc40, .int), (mc41, .int), (mc42, .int), (mc43, .int), (mc44, .int), (mc46, .long), (mc47, .int), (mc48, .int), (mc49, .int), (mc50, .int)] kT) (vp_Si (fun r : Int32 => r = nI (2 ^ mps - 1))) 0 0 (fun _ => False) := by
  refine Met.ofW (cc := cX10_everybody) (maxL := 1) (ret := (some .int)) (by decide) rfl ?_
  intro p e s m args below meth c s₁ B hml hv
  obtain ⟨rfl, hP, hK, hX⟩ := hv
  have hx := B.exec
  have hb := B.bytes
  have hr := B.returns
  have hts := atoms_spec (ws := w_s_every10n) B.pre
  have hown : s.vm.findClass RX10 = some m.cls := findClass_of_methodNamed B.named
  have hlocks := B.notSynchronized
  have hP : va_P (dC, dI) vwCl [(jM, .inr (10, [.int th, .ref m1, .ref m2, .ref m3, .ref m4, v5, .int (nI (ml)), .int (nI (mkl)), .int (nI (mku)), v9, v10, v11, v12, v13, v14, v15, v16, v17, v18, .ref m19, .ref m20, .ref m21, .ref m22, .ref m23, .ref m24, .ref m25, .int (nI (mps)), .int (nI (mkw)), .ref m28, .ref m29, .ref m30, .ref m31, .ref m32, .ref m33, .ref m34, .ref m35, .ref m36, .int thr, .int (nI (ho)), .long xx, .ref m40, .ref m41, .ref m42, .ref m43, .ref m44, .int (nI (mkn)), .ref m46, .ref m47, .ref m48, .ref m49, .ref m50, .int (nI (mka))])), (m1, .inl (mc1, 120, .inl mf1)), (m2, .inl (mc2, 1680, .inl mf2)), (m3, .inl (mc3, 14, .inl mf3)), (m4, .inl (mc4, 128, .inl mf4)), (m19, .inl (mc19, 10, .inl mf19)), (m20, .inl (mc20, 10, .inl mf20)), (m21, .inl (mc21, 10, .inl mf21)), (m22, .inl (mc22, 10, .inl mf22)), (m23, .inl (mc23, 10, .inl mf23)), (m24, .inl (mc24, 4, .inl mf24)), (m25, .inl (mc25, 10, .inl mf25)), (m28, .inl (mc28, 10, .inl mf28)), (m29, .inl (mc29, 10, .inl mf29)), (m30, .inl (mc30, 10, .inl mf30)), (m31, .inl (mc31, 10, .inl mf31)), (m32, .inl (mc32, 10, .inl mf32)), (m33, .inl (mc33, 10, .inl mf33)), (m34, .inl (mc34, 10, .inl mf34)), (m35, .inl (mc35, 10, .inl mf35)), (m36, .inl (mc36, 10, .inl mf36)), (m40, .inl (mc40, 20, .inl mf40)), (m41, .inl (mc41, 20, .inl mf41)), (m42, .inl (mc42, 20, .inl mf42)), (m43, .inl (mc43, 20, .inl mf43)), (m44, .inl (mc44, 20, .inl mf44)), (m46, .inl (mc46, 14, .inr (.inl mf46))), (m47, .inl (mc47, 6, .inl mf47)), (m48, .inl (mc48, 6, .inl mf48)), (m49, .inl (mc49, 6, .inl mf49)), (m50, .inl (mc50, 6, .inl mf50))] s.heap := hP
  have hl := lv_entry ([.ref jM]) (n := 1) (Nat.le_of_ble_eq_true rfl)
  rw [lg_entry_eq]
  generalize (lg_sl ([.ref jM]) ++ List.replicate (1 - (lg_sl ([.ref jM])).length) Slot.unset).toArray = ls at hl ⊢
  have hl : lv_has ls 1 [(0, .ref jM)] := hl
  refine kQ (fun Q hQ => ?_)
  refine lv_iconst (v := 1) hx hb dX10_everybody_0 kc_i_1 ?_
  refine lv_aload_n hx hb dX10_everybody_1 rfl (lv_at hl 0 rfl) ?_
  refine va_get (D := (dC, dI)) (ci := 10) (v := .int (nI (mps))) (C := RX10) (T := TX10) (N := 52) hx hb hts (fun _ h => List.mem_cons_of_mem _ (List.mem_append_right _ h)) hown hK hP 0 rfl rfl 26 kc_l_26_52 (hts (.fieldLink RX10 250 "NotEndedModel" "persons" "I") (List.mem_cons_of_mem _ (List.mem_append_left _ (List.mem_of_getElem? (i := 0) rfl)))) (fun _ h9 => h9) rfl dX10_everybody_2 ?_
  refine lv_ishl hx hb dX10_everybody_5 ?_
  refine lv_topi (fun x_1 ex_1 => ?_)
  refine lv_iconst (v := 1) hx hb dX10_everybody_6 kc_i_1 ?_
  refine lv_isub hx hb dX10_everybody_7 ?_
  refine lv_topi (fun x_2 ex_2 => ?_)
  rw [hQ]
  exact W.iret (v := x_2) hx hb hr (fun t ht hW => ⟨x_2, rfl, (by rw [← kEvb_n (ks := mps) (by omega)]; unfold kEvb; rw [ex_2, ex_1]), ht⟩) (fun _ h => nomatch h) dX10_everybody_8

def w_s_lower10x : List Cond := .code yX10_isLower cX10_isLower 3 (some .boolean) :: ([])
theorem gw_s_lower10x : (w_s_lower10x).all goodWord = true := kGc rfl kGn
set_option maxHeartbeats 4000000 in
set_option maxRecDepth 100000 in
theorem s_lower10x (l : Launch) (dC : Nat → ClassId) (dI : Nat → Nat → Nat) (p0 : Int32) (p1 : Int32) : Met l yX10_isLower w_s_lower10x ({ frames := 1, cells := 0, slots := 0, locals := 60 }) (kR dC dI [.int p0, .int p1] [] [] kT) (vp_Si (fun r : Int32 => r = kLwI p0 p1)) 0 0 (fun _ => False) := by
  refine Met.ofW (cc := cX10_isLower) (maxL := 3) (ret := (some .boolean)) (by decide) rfl ?_
  intro p e s m args below meth c s₁ B hml hv
  obtain ⟨rfl, hP, hK, hX⟩ := hv
  have hx := B.exec
  have hb := B.bytes
  have hr := B.returns
  have hts := atoms_spec (ws := w_s_lower10x) B.pre
  have hown : s.vm.findClass RX10 = some m.cls := findClass_of_methodNamed B.named
  have hlocks := B.notSynchronized
  have hP : va_P (dC, dI) vwCl [] s.heap := hP
  have hl := lv_entry ([.int p0, .int p1]) (n := 3) (Nat.le_of_ble_eq_true rfl)
  rw [lg_entry_eq]
  generalize (lg_sl ([.int p0, .int p1]) ++ List.replicate (3 - (lg_sl ([.int p0, .int p1])).length) Slot.unset).toArray = ls at hl ⊢
  have hl : lv_has ls 3 [(0, .int p0), (1, .int p1)] := hl
  refine kQ (fun Q hQ => ?_)
  refine lv_iload_n hx hb dX10_isLower_0 rfl (lv_at hl 0 rfl) ?_
  refine lv_iload_n hx hb dX10_isLower_1 rfl (lv_at hl 1 rfl) ?_
  refine lv_ixor hx hb dX10_isLower_2 ?_
  refine lv_topi (fun x_1 ex_1 => ?_)
  refine lv_istore_n hx hb dX10_isLower_3 rfl hl kc_l_2_3 (kTo [(2, .int x_1), (0, .int p0), (1, .int p1)]) (fun ls hl => ?_)
  refine lv_iload_n hx hb dX10_isLower_4 rfl (lv_at hl 1 rfl) ?_
  refine lv_iload_n hx hb dX10_isLower_5 rfl (lv_at hl 0 rfl) ?_
  refine lv_iand hx hb dX10_isLower_6 ?_
  refine lv_topi (fun x_2 ex_2 => ?_)
  refine lv_iload_n hx hb dX10_isLower_7 rfl (lv_at hl 0 rfl) ?_
  refine lv_ineg hx hb dX10_isLower_8 ?_
  refine lv_topi (fun x_3 ex_3 => ?_)
  refine lv_iand hx hb dX10_isLower_9 ?_
  refine lv_topi (fun x_4 ex_4 => ?_)
  refine lv_if_eq (tgt := 17) hx hb dX10_isLower_10 kc_t_10_7 (fun c_5 => ?_) (fun c_5 => ?_)
  · refine lv_iconst (v := 0) hx hb dX10_isLower_17 kc_i_0 ?_
    rw [hQ]
    exact W.zret (v := 0) hx hb hr rfl (fun t ht hW => ⟨0, rfl, (by unfold kLwI; rw [ex_4, ex_3, ex_2, ex_1] at c_5; rw [if_pos c_5]), ht⟩) (fun _ h => nomatch h) dX10_isLower_18
  · refine lv_iconst (v := 1) hx hb dX10_isLower_13 kc_i_1 ?_
    refine lv_goto (tgt := 18) hx hb dX10_isLower_14 kc_t_14_4 ?_
    rw [hQ]
    exact W.zret (v := 1) hx hb hr rfl (fun t ht hW => ⟨1, rfl, (by unfold kLwI; rw [ex_4, ex_3, ex_2, ex_1] at c_5; rw [if_neg c_5]), ht⟩) (fun _ h => nomatch h) dX10_isLower_18

