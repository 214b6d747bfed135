theorem dX9_isIn_0 : decode cX9_isIn 0 = .ok (.iload_n 0, 1) := by decide +kernel
theorem dX9_isIn_1 : decode cX9_isIn 1 = .ok (.iload_n 1, 1) := by decide +kernel
theorem dX9_isIn_2 : decode cX9_isIn 2 = .ok (.if_icmp .lt 12, 3) := by decide +kernel
theorem dX9_isIn_14 : decode cX9_isIn 14 = .ok (.iconst 0, 1) := by decide +kernel
theorem dX9_isIn_15 : decode cX9_isIn 15 = .ok (.ireturn, 1) := by decide +kernel
theorem dX9_isIn_5 : decode cX9_isIn 5 = .ok (.iload_n 0, 1) := by decide +kernel
theorem dX9_isIn_6 : decode cX9_isIn 6 = .ok (.iload_n 2, 1) := by decide +kernel
theorem dX9_isIn_7 : decode cX9_isIn 7 = .ok (.if_icmp .gt 7, 3) := by decide +kernel
theorem dX9_isIn_10 : decode cX9_isIn 10 = .ok (.iconst 1, 1) := by decide +kernel
theorem dX9_isIn_11 : decode cX9_isIn 11 = .ok (.goto 4, 3) := by decide +kernel
def w_c_isIn9 : List Cond := .code yX9_isIn cX9_isIn 3 (some .boolean) :: ([])
theorem gw_c_isIn9 : (w_c_isIn9).all goodWord = true := by decide +kernel
set_option maxHeartbeats 4000000 in
set_option maxRecDepth 100000 in
/-- isIn of the class -/
theorem c_isIn9 (l : Launch) (dC : Nat → ClassId) (dI : Nat → Nat → Nat) (p0 : Int32) (p1 : Int32) (p2 : Int32) : Met l yX9_isIn w_c_isIn9 ({ frames := 1, cells := 0, slots := 0, locals := 60 }) (kR dC dI [.int p0, .int p1, .int p2] [] [] kT) (vp_Si (fun r : Int32 => r = kIn p0 p1 p2)) 0 0 (fun _ => False) := by
  refine Met.ofW (cc := cX9_isIn) (maxL := 3) (ret := (some .boolean)) (by decide) rfl ?_
  intro p e s m args below meth c s₁ B hml hv
  obtain ⟨rfl, hP, hK, hX⟩ := hv
  have hx := B.exec
  have hb := B.bytes
  have hr := B.returns
  have hts := atoms_spec (ws := w_c_isIn9) B.pre
  have hown : s.vm.findClass RX9 = some m.cls := findClass_of_methodNamed B.named
  have hlocks := B.notSynchronized
  have hP : va_P (dC, dI) vwCl [] s.heap := hP
  have hl := lv_entry ([.int p0, .int p1, .int p2]) (n := 3) (Nat.le_of_ble_eq_true rfl)
  rw [lg_entry_eq]
  generalize (lg_sl ([.int p0, .int p1, .int p2]) ++ List.replicate (3 - (lg_sl ([.int p0, .int p1, .int p2])).length) Slot.unset).toArray = ls at hl ⊢
  have hl : lv_has ls 3 [(0, .int p0), (1, .int p1), (2, .int p2)] := hl
  refine lv_iload_n hx hb dX9_isIn_0 rfl (lv_at hl 0 rfl) ?_
  refine lv_iload_n hx hb dX9_isIn_1 rfl (lv_at hl 1 rfl) ?_
  refine lv_icmp_lt (tgt := 14) hx hb dX9_isIn_2 (by decide) (fun c_1 => ?_) (fun c_1 => ?_)
  · refine lv_iconst (v := 0) hx hb dX9_isIn_14 (by decide) ?_
    exact W.zret (v := 0) hx hb hr rfl (fun t ht hW => ⟨0, rfl, (by simp [kIn, c_1]), ht⟩) (fun _ h => nomatch h) dX9_isIn_15
  · refine lv_iload_n hx hb dX9_isIn_5 rfl (lv_at hl 0 rfl) ?_
    refine lv_iload_n hx hb dX9_isIn_6 rfl (lv_at hl 2 rfl) ?_
    refine lv_icmp_gt (tgt := 14) hx hb dX9_isIn_7 (by decide) (fun c_2 => ?_) (fun c_2 => ?_)
    · refine lv_iconst (v := 0) hx hb dX9_isIn_14 (by decide) ?_
      exact W.zret (v := 0) hx hb hr rfl (fun t ht hW => ⟨0, rfl, (by simp [kIn, c_1, c_2]), ht⟩) (fun _ h => nomatch h) dX9_isIn_15
    · refine lv_iconst (v := 1) hx hb dX9_isIn_10 (by decide) ?_
      refine lv_goto (tgt := 15) hx hb dX9_isIn_11 (by decide) ?_
      exact W.zret (v := 1) hx hb hr rfl (fun t ht hW => ⟨1, rfl, (by simp [kIn, c_1, c_2]), ht⟩) (fun _ h => nomatch h) dX9_isIn_15

theorem dX10_isIn_0 : decode cX10_isIn 0 = .ok (.iload_n 0, 1) := by decide +kernel
theorem dX10_isIn_1 : decode cX10_isIn 1 = .ok (.iload_n 1, 1) := by decide +kernel
theorem dX10_isIn_2 : decode cX10_isIn 2 = .ok (.if_icmp .lt 12, 3) := by decide +kernel
theorem dX10_isIn_14 : decode cX10_isIn 14 = .ok (.iconst 0, 1) := by decide +kernel
theorem dX10_isIn_15 : decode cX10_isIn 15 = .ok (.ireturn, 1) := by decide +kernel
theorem dX10_isIn_5 : decode cX10_isIn 5 = .ok (.iload_n 0, 1) := by decide +kernel
theorem dX10_isIn_6 : decode cX10_isIn 6 = .ok (.iload_n 2, 1) := by decide +kernel
theorem dX10_isIn_7 : decode cX10_isIn 7 = .ok (.if_icmp .gt 7, 3) := by decide +kernel
theorem dX10_isIn_10 : decode cX10_isIn 10 = .ok (.iconst 1, 1) := by decide +kernel
theorem dX10_isIn_11 : decode cX10_isIn 11 = .ok (.goto 4, 3) := by decide +kernel
def w_c_isIn10 : List Cond := .code yX10_isIn cX10_isIn 3 (some .boolean) :: ([])
theorem gw_c_isIn10 : (w_c_isIn10).all goodWord = true := by decide +kernel
set_option maxHeartbeats 4000000 in
set_option maxRecDepth 100000 in
/-- isIn of the reference -/
theorem c_isIn10 (l : Launch) (dC : Nat → ClassId) (dI : Nat → Nat → Nat) (p0 : Int32) (p1 : Int32) (p2 : Int32) : Met l yX10_isIn w_c_isIn10 ({ frames := 1, cells := 0, slots := 0, locals := 60 }) (kR dC dI [.int p0, .int p1, .int p2] [] [] kT) (vp_Si (fun r : Int32 => r = kIn p0 p1 p2)) 0 0 (fun _ => False) := by
  refine Met.ofW (cc := cX10_isIn) (maxL := 3) (ret := (some .boolean)) (by decide) rfl ?_
  intro p e s m args below meth c s₁ B hml hv
  obtain ⟨rfl, hP, hK, hX⟩ := hv
  have hx := B.exec
  have hb := B.bytes
  have hr := B.returns
  have hts := atoms_spec (ws := w_c_isIn10) B.pre
  have hown : s.vm.findClass RX10 = some m.cls := findClass_of_methodNamed B.named
  have hlocks := B.notSynchronized
  have hP : va_P (dC, dI) vwCl [] s.heap := hP
  have hl := lv_entry ([.int p0, .int p1, .int p2]) (n := 3) (Nat.le_of_ble_eq_true rfl)
  rw [lg_entry_eq]
  generalize (lg_sl ([.int p0, .int p1, .int p2]) ++ List.replicate (3 - (lg_sl ([.int p0, .int p1, .int p2])).length) Slot.unset).toArray = ls at hl ⊢
  have hl : lv_has ls 3 [(0, .int p0), (1, .int p1), (2, .int p2)] := hl
  refine lv_iload_n hx hb dX10_isIn_0 rfl (lv_at hl 0 rfl) ?_
  refine lv_iload_n hx hb dX10_isIn_1 rfl (lv_at hl 1 rfl) ?_
  refine lv_icmp_lt (tgt := 14) hx hb dX10_isIn_2 (by decide) (fun c_1 => ?_) (fun c_1 => ?_)
  · refine lv_iconst (v := 0) hx hb dX10_isIn_14 (by decide) ?_
    exact W.zret (v := 0) hx hb hr rfl (fun t ht hW => ⟨0, rfl, (by simp [kIn, c_1]), ht⟩) (fun _ h => nomatch h) dX10_isIn_15
  · refine lv_iload_n hx hb dX10_isIn_5 rfl (lv_at hl 0 rfl) ?_
    refine lv_iload_n hx hb dX10_isIn_6 rfl (lv_at hl 2 rfl) ?_
    refine lv_icmp_gt (tgt := 14) hx hb dX10_isIn_7 (by decide) (fun c_2 => ?_) (fun c_2 => ?_)
    · refine lv_iconst (v := 0) hx hb dX10_isIn_14 (by decide) ?_
      exact W.zret (v := 0) hx hb hr rfl (fun t ht hW => ⟨0, rfl, (by simp [kIn, c_1, c_2]), ht⟩) (fun _ h => nomatch h) dX10_isIn_15
    · refine lv_iconst (v := 1) hx hb dX10_isIn_10 (by decide) ?_
      refine lv_goto (tgt := 15) hx hb dX10_isIn_11 (by decide) ?_
      exact W.zret (v := 1) hx hb hr rfl (fun t ht hW => ⟨1, rfl, (by simp [kIn, c_1, c_2]), ht⟩) (fun _ h => nomatch h) dX10_isIn_15

theorem dX7_at_0 : decode cX7_at 0 = .ok (.iload_n 1, 1) := by decide +kernel
theorem dX7_at_1 : decode cX7_at 1 = .ok (.ifCond .lt 29, 3) := by decide +kernel
theorem dX7_at_30 : decode cX7_at 30 = .ok (.aconst_null, 1) := by decide +kernel
theorem dX7_at_31 : decode cX7_at 31 = .ok (.areturn, 1) := by decide +kernel
theorem dX7_at_4 : decode cX7_at 4 = .ok (.iload_n 1, 1) := by decide +kernel
theorem dX7_at_5 : decode cX7_at 5 = .ok (.aload_n 0, 1) := by decide +kernel
theorem dX7_at_6 : decode cX7_at 6 = .ok (.getfield 9, 3) := by decide +kernel
theorem dX7_at_9 : decode cX7_at 9 = .ok (.if_icmp .ge 21, 3) := by decide +kernel
def w_c_at7 : List Cond := .code yX7_at cX7_at 2 (some (.object "NotEnded$Rule")) :: ([.fieldLink RX7 9 "NotEnded$Shelf" "size" "I"] ++ (wsX70))
theorem gw_c_at7 : (w_c_at7).all goodWord = true := by decide +kernel
set_option maxHeartbeats 4000000 in
set_option maxRecDepth 100000 in
/-- an empty shelf has no text -/
theorem c_at7 (l : Launch) (dC : Nat → ClassId) (dI : Nat → Nat → Nat) (h0 : Nat) (v0 : Value) (p0 : Int32) : Met l yX7_at w_c_at7 ({ frames := 1, cells := 0, slots := 0, locals := 60 }) (kR dC dI [.ref h0, .int p0] [(h0, .inr (7, [v0, .int 0]))] [] kT) (va_Sq (fun r : Option Nat => r = none)) 0 0 (fun _ => False) := by
  refine Met.ofW (cc := cX7_at) (maxL := 2) (ret := (some (.object "NotEnded$Rule"))) (by decide) rfl ?_
  intro p e s m args below meth c s₁ B hml hv
  obtain ⟨rfl, hP, hK, hX⟩ := hv
  have hx := B.exec
  have hb := B.bytes
  have hr := B.returns
  have hts := atoms_spec (ws := w_c_at7) B.pre
  have hown : s.vm.findClass RX7 = some m.cls := findClass_of_methodNamed B.named
  have hlocks := B.notSynchronized
  have hP : va_P (dC, dI) vwCl [(h0, .inr (7, [v0, .int 0]))] s.heap := hP
  have hl := lv_entry ([.ref h0, .int p0]) (n := 2) (Nat.le_of_ble_eq_true rfl)
  rw [lg_entry_eq]
  generalize (lg_sl ([.ref h0, .int p0]) ++ List.replicate (2 - (lg_sl ([.ref h0, .int p0])).length) Slot.unset).toArray = ls at hl ⊢
  have hl : lv_has ls 2 [(0, .ref h0), (1, .int p0)] := hl
  refine lv_iload_n hx hb dX7_at_0 rfl (lv_at hl 1 rfl) ?_
  refine lv_if_lt (tgt := 30) hx hb dX7_at_1 (by decide) (fun c_1 => ?_) (fun c_1 => ?_)
  · refine lv_null hx hb dX7_at_30 ?_
    exact W.aret hx hb hr (Or.inl ⟨_, rfl⟩) (Or.inl rfl) (fun t ht hW => ⟨none, rfl, rfl, ht⟩) (fun _ h => nomatch h) dX7_at_31
  · refine lv_iload_n hx hb dX7_at_4 rfl (lv_at hl 1 rfl) ?_
    refine lv_aload_n hx hb dX7_at_5 rfl (lv_at hl 0 rfl) ?_
    refine va_get (D := (dC, dI)) (ci := 7) (v := .int 0) (C := RX7) (T := TX7) (N := 2) hx hb hts (fun _ h => List.mem_cons_of_mem _ (List.mem_append_right _ h)) hown hK hP 0 rfl rfl 1 (by decide) (hts (.fieldLink RX7 9 "NotEnded$Shelf" "size" "I") (List.mem_cons_of_mem _ (List.mem_append_left _ (List.mem_of_getElem? (i := 0) rfl)))) (fun _ h9 => h9) rfl dX7_at_6 ?_
    refine lv_icmp_ge (tgt := 30) hx hb dX7_at_9 (by decide) (fun c_2 => ?_) (fun c_2 => absurd (Int32.not_lt.mp c_1) c_2)
    refine lv_null hx hb dX7_at_30 ?_
    exact W.aret hx hb hr (Or.inl ⟨_, rfl⟩) (Or.inl rfl) (fun t ht hW => ⟨none, rfl, rfl, ht⟩) (fun _ h => nomatch h) dX7_at_31

theorem dX2_has_0 : decode cX2_has 0 = .ok (.iload_n 1, 1) := by decide +kernel
theorem dX2_has_1 : decode cX2_has 1 = .ok (.ifCond .lt 21, 3) := by decide +kernel
theorem dX2_has_22 : decode cX2_has 22 = .ok (.iconst 0, 1) := by decide +kernel
theorem dX2_has_23 : decode cX2_has 23 = .ok (.ireturn, 1) := by decide +kernel
theorem dX2_has_4 : decode cX2_has 4 = .ok (.iload_n 1, 1) := by decide +kernel
theorem dX2_has_5 : decode cX2_has 5 = .ok (.aload_n 0, 1) := by decide +kernel
theorem dX2_has_6 : decode cX2_has 6 = .ok (.getfield 31, 3) := by decide +kernel
theorem dX2_has_9 : decode cX2_has 9 = .ok (.if_icmp .ge 13, 3) := by decide +kernel
def w_c_has2 : List Cond := .code yX2_has cX2_has 2 (some .boolean) :: ([.fieldLink RX2 31 "NotEnded$Folk" "size" "I"] ++ (wsX20))
theorem gw_c_has2 : (w_c_has2).all goodWord = true := by decide +kernel
set_option maxHeartbeats 4000000 in
set_option maxRecDepth 100000 in
/-- nobody is there -/
theorem c_has2 (l : Launch) (dC : Nat → ClassId) (dI : Nat → Nat → Nat) (h0 : Nat) (v0 : Value) (v1 : Value) (v2 : Value) (v3 : Value) (v4 : Value) (v5 : Value) (v7 : Value) (p0 : Int32) : Met l yX2_has w_c_has2 ({ frames := 1, cells := 0, slots := 0, locals := 60 }) (kR dC dI [.ref h0, .int p0] [(h0, .inr (2, [v0, v1, v2, v3, v4, v5, .int 0, v7]))] [] kT) (vp_Si (fun r : Int32 => r = 0)) 0 0 (fun _ => False) := by
  refine Met.ofW (cc := cX2_has) (maxL := 2) (ret := (some .boolean)) (by decide) rfl ?_
  intro p e s m args below meth c s₁ B hml hv
  obtain ⟨rfl, hP, hK, hX⟩ := hv
  have hx := B.exec
  have hb := B.bytes
  have hr := B.returns
  have hts := atoms_spec (ws := w_c_has2) B.pre
  have hown : s.vm.findClass RX2 = some m.cls := findClass_of_methodNamed B.named
  have hlocks := B.notSynchronized
  have hP : va_P (dC, dI) vwCl [(h0, .inr (2, [v0, v1, v2, v3, v4, v5, .int 0, v7]))] s.heap := hP
  have hl := lv_entry ([.ref h0, .int p0]) (n := 2) (Nat.le_of_ble_eq_true rfl)
  rw [lg_entry_eq]
  generalize (lg_sl ([.ref h0, .int p0]) ++ List.replicate (2 - (lg_sl ([.ref h0, .int p0])).length) Slot.unset).toArray = ls at hl ⊢
  have hl : lv_has ls 2 [(0, .ref h0), (1, .int p0)] := hl
  refine lv_iload_n hx hb dX2_has_0 rfl (lv_at hl 1 rfl) ?_
  refine lv_if_lt (tgt := 22) hx hb dX2_has_1 (by decide) (fun c_1 => ?_) (fun c_1 => ?_)
  · refine lv_iconst (v := 0) hx hb dX2_has_22 (by decide) ?_
    exact W.zret (v := 0) hx hb hr rfl (fun t ht hW => ⟨0, rfl, rfl, ht⟩) (fun _ h => nomatch h) dX2_has_23
  · refine lv_iload_n hx hb dX2_has_4 rfl (lv_at hl 1 rfl) ?_
    refine lv_aload_n hx hb dX2_has_5 rfl (lv_at hl 0 rfl) ?_
    refine va_get (D := (dC, dI)) (ci := 2) (v := .int 0) (C := RX2) (T := TX2) (N := 8) hx hb hts (fun _ h => List.mem_cons_of_mem _ (List.mem_append_right _ h)) hown hK hP 0 rfl rfl 6 (by decide) (hts (.fieldLink RX2 31 "NotEnded$Folk" "size" "I") (List.mem_cons_of_mem _ (List.mem_append_left _ (List.mem_of_getElem? (i := 0) rfl)))) (fun _ h9 => h9) rfl dX2_has_6 ?_
    refine lv_icmp_ge (tgt := 22) hx hb dX2_has_9 (by decide) (fun c_2 => ?_) (fun c_2 => absurd (Int32.not_lt.mp c_1) c_2)
    refine lv_iconst (v := 0) hx hb dX2_has_22 (by decide) ?_
    exact W.zret (v := 0) hx hb hr rfl (fun t ht hW => ⟨0, rfl, rfl, ht⟩) (fun _ h => nomatch h) dX2_has_23

theorem dX7_size_0 : decode cX7_size 0 = .ok (.aload_n 0, 1) := by decide +kernel
theorem dX7_size_1 : decode cX7_size 1 = .ok (.getfield 9, 3) := by decide +kernel
theorem dX7_size_4 : decode cX7_size 4 = .ok (.ireturn, 1) := by decide +kernel
def w_c_size7 : List Cond := .code yX7_size cX7_size 1 (some .int) :: ([.fieldLink RX7 9 "NotEnded$Shelf" "size" "I"] ++ (wsX70))
theorem gw_c_size7 : (w_c_size7).all goodWord = true := by decide +kernel
set_option maxHeartbeats 4000000 in
set_option maxRecDepth 100000 in
/-- X7_size reads a number -/
theorem c_size7 (l : Launch) (dC : Nat → ClassId) (dI : Nat → Nat → Nat) (h0 : Nat) (v0 : Value) (n : Int32) : Met l yX7_size w_c_size7 ({ frames := 1, cells := 0, slots := 0, locals := 60 }) (kR dC dI [.ref h0] [(h0, .inr (7, [v0, .int n]))] [] kT) (vp_Si (fun r : Int32 => r = n)) 0 0 (fun _ => False) := by
  refine Met.ofW (cc := cX7_size) (maxL := 1) (ret := (some .int)) (by decide) rfl ?_
  intro p e s m args below meth c s₁ B hml hv
  obtain ⟨rfl, hP, hK, hX⟩ := hv
  have hx := B.exec
  have hb := B.bytes
  have hr := B.returns
  have hts := atoms_spec (ws := w_c_size7) B.pre
  have hown : s.vm.findClass RX7 = some m.cls := findClass_of_methodNamed B.named
  have hlocks := B.notSynchronized
  have hP : va_P (dC, dI) vwCl [(h0, .inr (7, [v0, .int n]))] s.heap := hP
  have hl := lv_entry ([.ref h0]) (n := 1) (Nat.le_of_ble_eq_true rfl)
  rw [lg_entry_eq]
  generalize (lg_sl ([.ref h0]) ++ List.replicate (1 - (lg_sl ([.ref h0])).length) Slot.unset).toArray = ls at hl ⊢
  have hl : lv_has ls 1 [(0, .ref h0)] := hl
  refine lv_aload_n hx hb dX7_size_0 rfl (lv_at hl 0 rfl) ?_
  refine va_get (D := (dC, dI)) (ci := 7) (v := .int n) (C := RX7) (T := TX7) (N := 2) hx hb hts (fun _ h => List.mem_cons_of_mem _ (List.mem_append_right _ h)) hown hK hP 0 rfl rfl 1 (by decide) (hts (.fieldLink RX7 9 "NotEnded$Shelf" "size" "I") (List.mem_cons_of_mem _ (List.mem_append_left _ (List.mem_of_getElem? (i := 0) rfl)))) (fun _ h9 => h9) rfl dX7_size_1 ?_
  exact W.iret (v := n) hx hb hr (fun t ht hW => ⟨n, rfl, rfl, ht⟩) (fun _ h => nomatch h) dX7_size_4

theorem dX2_size_0 : decode cX2_size 0 = .ok (.aload_n 0, 1) := by decide +kernel
theorem dX2_size_1 : decode cX2_size 1 = .ok (.getfield 31, 3) := by decide +kernel
theorem dX2_size_4 : decode cX2_size 4 = .ok (.ireturn, 1) := by decide +kernel
def w_c_size2 : List Cond := .code yX2_size cX2_size 1 (some .int) :: ([.fieldLink RX2 31 "NotEnded$Folk" "size" "I"] ++ (wsX20))
theorem gw_c_size2 : (w_c_size2).all goodWord = true := by decide +kernel
set_option maxHeartbeats 4000000 in
set_option maxRecDepth 100000 in
/-- X2_size reads a number -/
theorem c_size2 (l : Launch) (dC : Nat → ClassId) (dI : Nat → Nat → Nat) (h0 : Nat) (v0 : Value) (v1 : Value) (v2 : Value) (v3 : Value) (v4 : Value) (v5 : Value) (v7 : Value) (n : Int32) : Met l yX2_size w_c_size2 ({ frames := 1, cells := 0, slots := 0, locals := 60 }) (kR dC dI [.ref h0] [(h0, .inr (2, [v0, v1, v2, v3, v4, v5, .int n, v7]))] [] kT) (vp_Si (fun r : Int32 => r = n)) 0 0 (fun _ => False) := by
  refine Met.ofW (cc := cX2_size) (maxL := 1) (ret := (some .int)) (by decide) rfl ?_
  intro p e s m args below meth c s₁ B hml hv
  obtain ⟨rfl, hP, hK, hX⟩ := hv
  have hx := B.exec
  have hb := B.bytes
  have hr := B.returns
  have hts := atoms_spec (ws := w_c_size2) B.pre
  have hown : s.vm.findClass RX2 = some m.cls := findClass_of_methodNamed B.named
  have hlocks := B.notSynchronized
  have hP : va_P (dC, dI) vwCl [(h0, .inr (2, [v0, v1, v2, v3, v4, v5, .int n, v7]))] s.heap := hP
  have hl := lv_entry ([.ref h0]) (n := 1) (Nat.le_of_ble_eq_true rfl)
  rw [lg_entry_eq]
  generalize (lg_sl ([.ref h0]) ++ List.replicate (1 - (lg_sl ([.ref h0])).length) Slot.unset).toArray = ls at hl ⊢
  have hl : lv_has ls 1 [(0, .ref h0)] := hl
  refine lv_aload_n hx hb dX2_size_0 rfl (lv_at hl 0 rfl) ?_
  refine va_get (D := (dC, dI)) (ci := 2) (v := .int n) (C := RX2) (T := TX2) (N := 8) hx hb hts (fun _ h => List.mem_cons_of_mem _ (List.mem_append_right _ h)) hown hK hP 0 rfl rfl 6 (by decide) (hts (.fieldLink RX2 31 "NotEnded$Folk" "size" "I") (List.mem_cons_of_mem _ (List.mem_append_left _ (List.mem_of_getElem? (i := 0) rfl)))) (fun _ h9 => h9) rfl dX2_size_1 ?_
  exact W.iret (v := n) hx hb hr (fun t ht hW => ⟨n, rfl, rfl, ht⟩) (fun _ h => nomatch h) dX2_size_4

theorem dX2_words_0 : decode cX2_words 0 = .ok (.aload_n 0, 1) := by decide +kernel
theorem dX2_words_1 : decode cX2_words 1 = .ok (.getfield 34, 3) := by decide +kernel
theorem dX2_words_4 : decode cX2_words 4 = .ok (.ireturn, 1) := by decide +kernel
def w_c_words2 : List Cond := .code yX2_words cX2_words 1 (some .int) :: ([.fieldLink RX2 34 "NotEnded$Folk" "words" "I"] ++ (wsX20))
theorem gw_c_words2 : (w_c_words2).all goodWord = true := by decide +kernel
set_option maxHeartbeats 4000000 in
set_option maxRecDepth 100000 in
/-- X2_words reads a number -/
theorem c_words2 (l : Launch) (dC : Nat → ClassId) (dI : Nat → Nat → Nat) (h0 : Nat) (v0 : Value) (v1 : Value) (v2 : Value) (v3 : Value) (v4 : Value) (v5 : Value) (v6 : Value) (n : Int32) : Met l yX2_words w_c_words2 ({ frames := 1, cells := 0, slots := 0, locals := 60 }) (kR dC dI [.ref h0] [(h0, .inr (2, [v0, v1, v2, v3, v4, v5, v6, .int n]))] [] kT) (vp_Si (fun r : Int32 => r = n)) 0 0 (fun _ => False) := by
  refine Met.ofW (cc := cX2_words) (maxL := 1) (ret := (some .int)) (by decide) rfl ?_
  intro p e s m args below meth c s₁ B hml hv
  obtain ⟨rfl, hP, hK, hX⟩ := hv
  have hx := B.exec
  have hb := B.bytes
  have hr := B.returns
  have hts := atoms_spec (ws := w_c_words2) B.pre
  have hown : s.vm.findClass RX2 = some m.cls := findClass_of_methodNamed B.named
  have hlocks := B.notSynchronized
  have hP : va_P (dC, dI) vwCl [(h0, .inr (2, [v0, v1, v2, v3, v4, v5, v6, .int n]))] s.heap := hP
  have hl := lv_entry ([.ref h0]) (n := 1) (Nat.le_of_ble_eq_true rfl)
  rw [lg_entry_eq]
  generalize (lg_sl ([.ref h0]) ++ List.replicate (1 - (lg_sl ([.ref h0])).length) Slot.unset).toArray = ls at hl ⊢
  have hl : lv_has ls 1 [(0, .ref h0)] := hl
  refine lv_aload_n hx hb dX2_words_0 rfl (lv_at hl 0 rfl) ?_
  refine va_get (D := (dC, dI)) (ci := 2) (v := .int n) (C := RX2) (T := TX2) (N := 8) hx hb hts (fun _ h => List.mem_cons_of_mem _ (List.mem_append_right _ h)) hown hK hP 0 rfl rfl 7 (by decide) (hts (.fieldLink RX2 34 "NotEnded$Folk" "words" "I") (List.mem_cons_of_mem _ (List.mem_append_left _ (List.mem_of_getElem? (i := 0) rfl)))) (fun _ h9 => h9) rfl dX2_words_1 ?_
  exact W.iret (v := n) hx hb hr (fun t ht hW => ⟨n, rfl, rfl, ht⟩) (fun _ h => nomatch h) dX2_words_4

theorem dX3_size_0 : decode cX3_size 0 = .ok (.aload_n 0, 1) := by decide +kernel
theorem dX3_size_1 : decode cX3_size 1 = .ok (.getfield 27, 3) := by decide +kernel
theorem dX3_size_4 : decode cX3_size 4 = .ok (.ireturn, 1) := by decide +kernel
def w_c_size3 : List Cond := .code yX3_size cX3_size 1 (some .int) :: ([.fieldLink RX3 27 "NotEnded$Notebook" "size" "I"] ++ (wsX30))
theorem gw_c_size3 : (w_c_size3).all goodWord = true := by decide +kernel
set_option maxHeartbeats 4000000 in
set_option maxRecDepth 100000 in
/-- X3_size reads a number -/
theorem c_size3 (l : Launch) (dC : Nat → ClassId) (dI : Nat → Nat → Nat) (h0 : Nat) (v0 : Value) (v1 : Value) (v2 : Value) (v3 : Value) (v4 : Value) (n : Int32) : Met l yX3_size w_c_size3 ({ frames := 1, cells := 0, slots := 0, locals := 60 }) (kR dC dI [.ref h0] [(h0, .inr (3, [v0, v1, v2, v3, v4, .int n]))] [] kT) (vp_Si (fun r : Int32 => r = n)) 0 0 (fun _ => False) := by
  refine Met.ofW (cc := cX3_size) (maxL := 1) (ret := (some .int)) (by decide) rfl ?_
  intro p e s m args below meth c s₁ B hml hv
  obtain ⟨rfl, hP, hK, hX⟩ := hv
  have hx := B.exec
  have hb := B.bytes
  have hr := B.returns
  have hts := atoms_spec (ws := w_c_size3) B.pre
  have hown : s.vm.findClass RX3 = some m.cls := findClass_of_methodNamed B.named
  have hlocks := B.notSynchronized
  have hP : va_P (dC, dI) vwCl [(h0, .inr (3, [v0, v1, v2, v3, v4, .int n]))] s.heap := hP
  have hl := lv_entry ([.ref h0]) (n := 1) (Nat.le_of_ble_eq_true rfl)
  rw [lg_entry_eq]
  generalize (lg_sl ([.ref h0]) ++ List.replicate (1 - (lg_sl ([.ref h0])).length) Slot.unset).toArray = ls at hl ⊢
  have hl : lv_has ls 1 [(0, .ref h0)] := hl
  refine lv_aload_n hx hb dX3_size_0 rfl (lv_at hl 0 rfl) ?_
  refine va_get (D := (dC, dI)) (ci := 3) (v := .int n) (C := RX3) (T := TX3) (N := 6) hx hb hts (fun _ h => List.mem_cons_of_mem _ (List.mem_append_right _ h)) hown hK hP 0 rfl rfl 5 (by decide) (hts (.fieldLink RX3 27 "NotEnded$Notebook" "size" "I") (List.mem_cons_of_mem _ (List.mem_append_left _ (List.mem_of_getElem? (i := 0) rfl)))) (fun _ h9 => h9) rfl dX3_size_1 ?_
  exact W.iret (v := n) hx hb hr (fun t ht hW => ⟨n, rfl, rfl, ht⟩) (fun _ h => nomatch h) dX3_size_4

theorem dX0_size_0 : decode cX0_size 0 = .ok (.aload_n 0, 1) := by decide +kernel
theorem dX0_size_1 : decode cX0_size 1 = .ok (.getfield 24, 3) := by decide +kernel
theorem dX0_size_4 : decode cX0_size 4 = .ok (.ireturn, 1) := by decide +kernel
def w_c_size0 : List Cond := .code yX0_size cX0_size 1 (some .int) :: ([.fieldLink RX0 24 "NotEnded$Acts" "size" "I"] ++ (wsX00))
theorem gw_c_size0 : (w_c_size0).all goodWord = true := by decide +kernel
set_option maxHeartbeats 4000000 in
set_option maxRecDepth 100000 in
/-- X0_size reads a number -/
theorem c_size0 (l : Launch) (dC : Nat → ClassId) (dI : Nat → Nat → Nat) (h0 : Nat) (v0 : Value) (v1 : Value) (v2 : Value) (v3 : Value) (n : Int32) : Met l yX0_size w_c_size0 ({ frames := 1, cells := 0, slots := 0, locals := 60 }) (kR dC dI [.ref h0] [(h0, .inr (0, [v0, v1, v2, v3, .int n]))] [] kT) (vp_Si (fun r : Int32 => r = n)) 0 0 (fun _ => False) := by
  refine Met.ofW (cc := cX0_size) (maxL := 1) (ret := (some .int)) (by decide) rfl ?_
  intro p e s m args below meth c s₁ B hml hv
  obtain ⟨rfl, hP, hK, hX⟩ := hv
  have hx := B.exec
  have hb := B.bytes
  have hr := B.returns
  have hts := atoms_spec (ws := w_c_size0) B.pre
  have hown : s.vm.findClass RX0 = some m.cls := findClass_of_methodNamed B.named
  have hlocks := B.notSynchronized
  have hP : va_P (dC, dI) vwCl [(h0, .inr (0, [v0, v1, v2, v3, .int n]))] s.heap := hP
  have hl := lv_entry ([.ref h0]) (n := 1) (Nat.le_of_ble_eq_true rfl)
  rw [lg_entry_eq]
  generalize (lg_sl ([.ref h0]) ++ List.replicate (1 - (lg_sl ([.ref h0])).length) Slot.unset).toArray = ls at hl ⊢
  have hl : lv_has ls 1 [(0, .ref h0)] := hl
  refine lv_aload_n hx hb dX0_size_0 rfl (lv_at hl 0 rfl) ?_
  refine va_get (D := (dC, dI)) (ci := 0) (v := .int n) (C := RX0) (T := TX0) (N := 5) hx hb hts (fun _ h => List.mem_cons_of_mem _ (List.mem_append_right _ h)) hown hK hP 0 rfl rfl 4 (by decide) (hts (.fieldLink RX0 24 "NotEnded$Acts" "size" "I") (List.mem_cons_of_mem _ (List.mem_append_left _ (List.mem_of_getElem? (i := 0) rfl)))) (fun _ h9 => h9) rfl dX0_size_1 ?_
  exact W.iret (v := n) hx hb hr (fun t ht hW => ⟨n, rfl, rfl, ht⟩) (fun _ h => nomatch h) dX0_size_4

theorem dX8_length_0 : decode cX8_length 0 = .ok (.aload_n 0, 1) := by decide +kernel
theorem dX8_length_1 : decode cX8_length 1 = .ok (.getfield 15, 3) := by decide +kernel
theorem dX8_length_4 : decode cX8_length 4 = .ok (.ireturn, 1) := by decide +kernel
def w_c_length8 : List Cond := .code yX8_length cX8_length 1 (some .int) :: ([.fieldLink RX8 15 "NotEnded$Tape" "length" "I"] ++ (wsX80))
theorem gw_c_length8 : (w_c_length8).all goodWord = true := by decide +kernel
set_option maxHeartbeats 4000000 in
set_option maxRecDepth 100000 in
/-- X8_length reads a number -/
theorem c_length8 (l : Launch) (dC : Nat → ClassId) (dI : Nat → Nat → Nat) (h0 : Nat) (v0 : Value) (n : Int32) : Met l yX8_length w_c_length8 ({ frames := 1, cells := 0, slots := 0, locals := 60 }) (kR dC dI [.ref h0] [(h0, .inr (8, [v0, .int n]))] [] kT) (vp_Si (fun r : Int32 => r = n)) 0 0 (fun _ => False) := by
  refine Met.ofW (cc := cX8_length) (maxL := 1) (ret := (some .int)) (by decide) rfl ?_
  intro p e s m args below meth c s₁ B hml hv
  obtain ⟨rfl, hP, hK, hX⟩ := hv
  have hx := B.exec
  have hb := B.bytes
  have hr := B.returns
  have hts := atoms_spec (ws := w_c_length8) B.pre
  have hown : s.vm.findClass RX8 = some m.cls := findClass_of_methodNamed B.named
  have hlocks := B.notSynchronized
  have hP : va_P (dC, dI) vwCl [(h0, .inr (8, [v0, .int n]))] s.heap := hP
  have hl := lv_entry ([.ref h0]) (n := 1) (Nat.le_of_ble_eq_true rfl)
  rw [lg_entry_eq]
  generalize (lg_sl ([.ref h0]) ++ List.replicate (1 - (lg_sl ([.ref h0])).length) Slot.unset).toArray = ls at hl ⊢
  have hl : lv_has ls 1 [(0, .ref h0)] := hl
  refine lv_aload_n hx hb dX8_length_0 rfl (lv_at hl 0 rfl) ?_
  refine va_get (D := (dC, dI)) (ci := 8) (v := .int n) (C := RX8) (T := TX8) (N := 2) hx hb hts (fun _ h => List.mem_cons_of_mem _ (List.mem_append_right _ h)) hown hK hP 0 rfl rfl 1 (by decide) (hts (.fieldLink RX8 15 "NotEnded$Tape" "length" "I") (List.mem_cons_of_mem _ (List.mem_append_left _ (List.mem_of_getElem? (i := 0) rfl)))) (fun _ h9 => h9) rfl dX8_length_1 ?_
  exact W.iret (v := n) hx hb hr (fun t ht hW => ⟨n, rfl, rfl, ht⟩) (fun _ h => nomatch h) dX8_length_4

theorem dX2_everybody_0 : decode cX2_everybody 0 = .ok (.iconst 1, 1) := by decide +kernel
theorem dX2_everybody_1 : decode cX2_everybody 1 = .ok (.aload_n 0, 1) := by decide +kernel
theorem dX2_everybody_2 : decode cX2_everybody 2 = .ok (.getfield 31, 3) := by decide +kernel
theorem dX2_everybody_5 : decode cX2_everybody 5 = .ok (.ishl, 1) := by decide +kernel
theorem dX2_everybody_6 : decode cX2_everybody 6 = .ok (.iconst 1, 1) := by decide +kernel
theorem dX2_everybody_7 : decode cX2_everybody 7 = .ok (.isub, 1) := by decide +kernel
theorem dX2_everybody_8 : decode cX2_everybody 8 = .ok (.ireturn, 1) := by decide +kernel
def w_c_every2 : List Cond := .code yX2_everybody cX2_everybody 1 (some .int) :: ([.fieldLink RX2 31 "NotEnded$Folk" "size" "I"] ++ (wsX20))
theorem gw_c_every2 : (w_c_every2).all goodWord = true := by decide +kernel
set_option maxHeartbeats 4000000 in
set_option maxRecDepth 100000 in
theorem c_every2 (l : Launch) (dC : Nat → ClassId) (dI : Nat → Nat → Nat) (h0 : Nat) (v0 : Value) (v1 : Value) (v2 : Value) (v3 : Value) (v4 : Value) (v5 : Value) (v7 : Value) : Met l yX2_everybody w_c_every2 ({ frames := 1, cells := 0, slots := 0, locals := 60 }) (kR dC dI [.ref h0] [(h0, .inr (2, [v0, v1, v2, v3, v4, v5, .int 0, v7]))] [] kT) (vp_Si (fun r : Int32 => r = 0)) 0 0 (fun _ => False) := by
  refine Met.ofW (cc := cX2_everybody) (maxL := 1) (ret := (some .int)) (by decide) rfl ?_
  intro p e s m args below meth c s₁ B hml hv
  obtain ⟨rfl, hP, hK, hX⟩ := hv
  have hx := B.exec
  have hb := B.bytes
  have hr := B.returns
  have hts := atoms_spec (ws := w_c_every2) B.pre
  have hown : s.vm.findClass RX2 = some m.cls := findClass_of_methodNamed B.named
  have hlocks := B.notSynchronized
  have hP : va_P (dC, dI) vwCl [(h0, .inr (2, [v0, v1, v2, v3, v4, v5, .int 0, v7]))] s.heap := hP
  have hl := lv_entry ([.ref h0]) (n := 1) (Nat.le_of_ble_eq_true rfl)
  rw [lg_entry_eq]
  generalize (lg_sl ([.ref h0]) ++ List.replicate (1 - (lg_sl ([.ref h0])).length) Slot.unset).toArray = ls at hl ⊢
  have hl : lv_has ls 1 [(0, .ref h0)] := hl
  refine lv_iconst (v := 1) hx hb dX2_everybody_0 (by decide) ?_
  refine lv_aload_n hx hb dX2_everybody_1 rfl (lv_at hl 0 rfl) ?_
  refine va_get (D := (dC, dI)) (ci := 2) (v := .int 0) (C := RX2) (T := TX2) (N := 8) hx hb hts (fun _ h => List.mem_cons_of_mem _ (List.mem_append_right _ h)) hown hK hP 0 rfl rfl 6 (by decide) (hts (.fieldLink RX2 31 "NotEnded$Folk" "size" "I") (List.mem_cons_of_mem _ (List.mem_append_left _ (List.mem_of_getElem? (i := 0) rfl)))) (fun _ h9 => h9) rfl dX2_everybody_2 ?_
  refine lv_ishl hx hb dX2_everybody_5 ?_
  refine lv_topi (fun y_1 ey_1 => ?_)
  obtain rfl : y_1 = 1 := ey_1.trans (by decide)
  refine lv_iconst (v := 1) hx hb dX2_everybody_6 (by decide) ?_
  refine lv_isub hx hb dX2_everybody_7 ?_
  refine lv_topi (fun y_2 ey_2 => ?_)
  obtain rfl : y_2 = 0 := ey_2.trans (by decide)
  exact W.iret (v := 0) hx hb hr (fun t ht hW => ⟨0, rfl, rfl, ht⟩) (fun _ h => nomatch h) dX2_everybody_8

theorem dX2_thoseAlone_0 : decode cX2_thoseAlone 0 = .ok (.aload_n 0, 1) := by decide +kernel
theorem dX2_thoseAlone_1 : decode cX2_thoseAlone 1 = .ok (.invokevirtual 41, 3) := by decide +kernel
theorem dX2_thoseAlone_4 : decode cX2_thoseAlone 4 = .ok (.istore_n 1, 1) := by decide +kernel
theorem dX2_thoseAlone_5 : decode cX2_thoseAlone 5 = .ok (.iconst 0, 1) := by decide +kernel
theorem dX2_thoseAlone_6 : decode cX2_thoseAlone 6 = .ok (.istore_n 2, 1) := by decide +kernel
theorem dX2_thoseAlone_7 : decode cX2_thoseAlone 7 = .ok (.iload_n 2, 1) := by decide +kernel
theorem dX2_thoseAlone_8 : decode cX2_thoseAlone 8 = .ok (.aload_n 0, 1) := by decide +kernel
theorem dX2_thoseAlone_9 : decode cX2_thoseAlone 9 = .ok (.getfield 31, 3) := by decide +kernel
theorem dX2_thoseAlone_12 : decode cX2_thoseAlone 12 = .ok (.if_icmp .ge 53, 3) := by decide +kernel
theorem dX2_thoseAlone_65 : decode cX2_thoseAlone 65 = .ok (.iload_n 1, 1) := by decide +kernel
theorem dX2_thoseAlone_66 : decode cX2_thoseAlone 66 = .ok (.ireturn, 1) := by decide +kernel
def w_c_alone2 : List Cond := .code yX2_thoseAlone cX2_thoseAlone 4 (some .int) :: ([.initialized RX2, .selects RX2 yX2_everybody yX2_everybody, .instanceMethod yX2_everybody, .methodLink RX2 41 yX2_everybody, .fieldLink RX2 31 "NotEnded$Folk" "size" "I"] ++ (w_c_every2 ++ (wsX20)))
theorem gw_c_alone2 : (w_c_alone2).all goodWord = true := by decide +kernel
set_option maxHeartbeats 4000000 in
set_option maxRecDepth 100000 in
theorem c_alone2 (l : Launch) (dC : Nat → ClassId) (dI : Nat → Nat → Nat) (h0 : Nat) (v0 : Value) (v1 : Value) (v2 : Value) (v3 : Value) (v4 : Value) (v5 : Value) (v7 : Value) : Met l yX2_thoseAlone w_c_alone2 ({ frames := 2, cells := 0, slots := 0, locals := 120 }) (kR dC dI [.ref h0] [(h0, .inr (2, [v0, v1, v2, v3, v4, v5, .int 0, v7]))] [] kT) (vp_Si (fun r : Int32 => r = 0)) 0 0 (fun _ => False) := by
  refine Met.ofW (cc := cX2_thoseAlone) (maxL := 4) (ret := (some .int)) (by decide) rfl ?_
  intro p e s m args below meth c s₁ B hml hv
  obtain ⟨rfl, hP, hK, hX⟩ := hv
  have hx := B.exec
  have hb := B.bytes
  have hr := B.returns
  have hts := atoms_spec (ws := w_c_alone2) B.pre
  have hown : s.vm.findClass RX2 = some m.cls := findClass_of_methodNamed B.named
  have hlocks := B.notSynchronized
  have hP : va_P (dC, dI) vwCl [(h0, .inr (2, [v0, v1, v2, v3, v4, v5, .int 0, v7]))] s.heap := hP
  have hl := lv_entry ([.ref h0]) (n := 4) (Nat.le_of_ble_eq_true rfl)
  rw [lg_entry_eq]
  generalize (lg_sl ([.ref h0]) ++ List.replicate (4 - (lg_sl ([.ref h0])).length) Slot.unset).toArray = ls at hl ⊢
  have hl : lv_has ls 4 [(0, .ref h0)] := hl
  refine lv_aload_n hx hb dX2_thoseAlone_0 rfl (lv_at hl 0 rfl) ?_
  have hPc := hP.sub (ws' := [(h0, .inr (2, [v0, v1, v2, v3, v4, v5, .int 0, v7]))]) [0] rfl
  have hKc := hK.sub (tys' := []) [] rfl
  refine vp_callSi (va_runV (As := []) (rest := []) ⟨hx, hb, hml, hown, hts⟩ (c_every2 l dC dI h0 (v0 : Value) (v1 : Value) (v2 : Value) (v3 : Value) (v4 : Value) (v5 : Value) (v7 : Value)) (cwV 0 hts (kG (List.forall_mem_cons.mpr ⟨(List.mem_cons_of_mem _ (List.mem_append_left _ (List.mem_of_getElem? (i := 3) rfl))), (List.forall_mem_cons.mpr ⟨(List.mem_cons_of_mem _ (List.mem_append_left _ (List.mem_of_getElem? (i := 2) rfl))), (List.forall_mem_cons.mpr ⟨(List.mem_cons_of_mem _ (List.mem_append_left _ (List.mem_of_getElem? (i := 1) rfl))), (List.forall_mem_cons.mpr ⟨(List.mem_cons_of_mem _ (List.mem_append_left _ (List.mem_of_getElem? (i := 0) rfl))), (fun _ h => absurd h List.not_mem_nil)⟩)⟩)⟩)⟩) (by decide +kernel) (fun _ h => List.mem_cons_of_mem _ (List.mem_append_right _ (List.mem_append_left _ h))) gw_c_every2) rfl rfl rfl (by decide +kernel) ⟨(Nat.le_of_ble_eq_true rfl), (Nat.le_of_ble_eq_true rfl)⟩) (kR_V kT_blind kT_give (va_recv hKc hPc (ci := 2) (q0 := 0) rfl rfl) hPc hKc) rfl rfl hl.1 rfl (lv_room (Nat.le_of_ble_eq_true rfl)) dX2_thoseAlone_1 ⟨(Nat.le_of_ble_eq_true rfl), (Nat.le_of_ble_eq_true rfl)⟩).run (fun r_1 hw => ?_)
  obtain rfl : r_1 = 0 := hw
  refine lv_istore_n (lv' := [(1, .int 0), (0, .ref h0)]) hx hb dX2_thoseAlone_4 rfl hl (by decide) rfl (fun ls hl => ?_)
  refine lv_iconst (v := 0) hx hb dX2_thoseAlone_5 (by decide) ?_
  refine lv_istore_n (lv' := [(2, .int 0), (1, .int 0), (0, .ref h0)]) hx hb dX2_thoseAlone_6 rfl hl (by decide) rfl (fun ls hl => ?_)
  refine lv_iload_n hx hb dX2_thoseAlone_7 rfl (lv_at hl 0 rfl) ?_
  refine lv_aload_n hx hb dX2_thoseAlone_8 rfl (lv_at hl 2 rfl) ?_
  refine va_get (D := (dC, dI)) (ci := 2) (v := .int 0) (C := RX2) (T := TX2) (N := 8) hx hb hts (fun _ h => List.mem_cons_of_mem _ (List.mem_append_right _ (List.mem_append_right _ h))) hown hK hP 0 rfl rfl 6 (by decide) (hts (.fieldLink RX2 31 "NotEnded$Folk" "size" "I") (List.mem_cons_of_mem _ (List.mem_append_left _ (List.mem_of_getElem? (i := 4) rfl)))) (fun _ h9 => h9) rfl dX2_thoseAlone_9 ?_
  refine lv_icmp_ge (tgt := 65) hx hb dX2_thoseAlone_12 (by decide) (fun c_2 => ?_) (fun c_2 => absurd (by decide) c_2)
  refine lv_iload_n hx hb dX2_thoseAlone_65 rfl (lv_at hl 1 rfl) ?_
  exact W.iret (v := 0) hx hb hr (fun t ht hW => ⟨0, rfl, rfl, ht⟩) (fun _ h => nomatch h) dX2_thoseAlone_66

theorem dX9_isHouse_0 : decode cX9_isHouse 0 = .ok (.iload_n 0, 1) := by decide +kernel
theorem dX9_isHouse_1 : decode cX9_isHouse 1 = .ok (.iconst 0, 1) := by decide +kernel
theorem dX9_isHouse_2 : decode cX9_isHouse 2 = .ok (.iconst 3, 1) := by decide +kernel
theorem dX9_isHouse_3 : decode cX9_isHouse 3 = .ok (.invokestatic 117, 3) := by decide +kernel
theorem dX9_isHouse_6 : decode cX9_isHouse 6 = .ok (.ireturn, 1) := by decide +kernel
def w_c_isHouse9 : List Cond := .code yX9_isHouse cX9_isHouse 1 (some .boolean) :: ([.initialized RX9, .static yX9_isIn, .methodLink RX9 117 yX9_isIn] ++ (w_c_isIn9))
theorem gw_c_isHouse9 : (w_c_isHouse9).all goodWord = true := by decide +kernel
set_option maxHeartbeats 4000000 in
set_option maxRecDepth 100000 in
theorem c_isHouse9 (l : Launch) (dC : Nat → ClassId) (dI : Nat → Nat → Nat) (p0 : Int32) : Met l yX9_isHouse w_c_isHouse9 ({ frames := 2, cells := 0, slots := 0, locals := 120 }) (kR dC dI [.int p0] [] [] kT) (vp_Si (fun r : Int32 => r = kIn p0 0 3)) 0 0 (fun _ => False) := by
  refine Met.ofW (cc := cX9_isHouse) (maxL := 1) (ret := (some .boolean)) (by decide) rfl ?_
  intro p e s m args below meth c s₁ B hml hv
  obtain ⟨rfl, hP, hK, hX⟩ := hv
  have hx := B.exec
  have hb := B.bytes
  have hr := B.returns
  have hts := atoms_spec (ws := w_c_isHouse9) B.pre
  have hown : s.vm.findClass RX9 = some m.cls := findClass_of_methodNamed B.named
  have hlocks := B.notSynchronized
  have hP : va_P (dC, dI) vwCl [] s.heap := hP
  have hl := lv_entry ([.int p0]) (n := 1) (Nat.le_of_ble_eq_true rfl)
  rw [lg_entry_eq]
  generalize (lg_sl ([.int p0]) ++ List.replicate (1 - (lg_sl ([.int p0])).length) Slot.unset).toArray = ls at hl ⊢
  have hl : lv_has ls 1 [(0, .int p0)] := hl
  refine lv_iload_n hx hb dX9_isHouse_0 rfl (lv_at hl 0 rfl) ?_
  refine lv_iconst (v := 0) hx hb dX9_isHouse_1 (by decide) ?_
  refine lv_iconst (v := 3) hx hb dX9_isHouse_2 (by decide) ?_
  have hPc := hP.sub (ws' := []) [] rfl
  have hKc := hK.sub (tys' := []) [] rfl
  refine vp_callSi (va_runS (As := [.int p0, .int 0, .int 3]) (rest := []) ⟨hx, hb, hml, hown, hts⟩ (c_isIn9 l dC dI p0 0 3) (va_cwS 3 hts (kG (List.forall_mem_cons.mpr ⟨(List.mem_cons_of_mem _ (List.mem_append_left _ (List.mem_of_getElem? (i := 2) rfl))), (List.forall_mem_cons.mpr ⟨(List.mem_cons_of_mem _ (List.mem_append_left _ (List.mem_of_getElem? (i := 1) rfl))), (List.forall_mem_cons.mpr ⟨(List.mem_cons_of_mem _ (List.mem_append_left _ (List.mem_of_getElem? (i := 0) rfl))), (fun _ h => absurd h List.not_mem_nil)⟩)⟩)⟩) (by decide +kernel) (fun _ h => List.mem_cons_of_mem _ (List.mem_append_right _ h)) gw_c_isIn9) rfl rfl rfl (by decide +kernel) ⟨(Nat.le_of_ble_eq_true rfl), (Nat.le_of_ble_eq_true rfl)⟩) (kR_S kT_blind kT_give hPc hKc) rfl rfl hl.1 rfl (lv_room (Nat.le_of_ble_eq_true rfl)) dX9_isHouse_3 ⟨(Nat.le_of_ble_eq_true rfl), (Nat.le_of_ble_eq_true rfl)⟩).run (fun r_1 hw => ?_)
  have hw_2 := hw
  exact W.zret (v := r_1) hx hb hr (by rw [hw_2]; exact kIn_nar _ _ _) (fun t ht hW => ⟨r_1, rfl, hw_2, ht⟩) (fun _ h => nomatch h) dX9_isHouse_6

theorem dX9_isSort_0 : decode cX9_isSort 0 = .ok (.iload_n 0, 1) := by decide +kernel
theorem dX9_isSort_1 : decode cX9_isSort 1 = .ok (.ifCond .eq 8, 3) := by decide +kernel
theorem dX9_isSort_9 : decode cX9_isSort 9 = .ok (.iconst 1, 1) := by decide +kernel
theorem dX9_isSort_10 : decode cX9_isSort 10 = .ok (.goto 4, 3) := by decide +kernel
theorem dX9_isSort_14 : decode cX9_isSort 14 = .ok (.ireturn, 1) := by decide +kernel
theorem dX9_isSort_4 : decode cX9_isSort 4 = .ok (.iload_n 0, 1) := by decide +kernel
theorem dX9_isSort_5 : decode cX9_isSort 5 = .ok (.iconst 1, 1) := by decide +kernel
theorem dX9_isSort_6 : decode cX9_isSort 6 = .ok (.if_icmp .ne 7, 3) := by decide +kernel
theorem dX9_isSort_13 : decode cX9_isSort 13 = .ok (.iconst 0, 1) := by decide +kernel
def w_c_isSort9 : List Cond := .code yX9_isSort cX9_isSort 1 (some .boolean) :: ([])
theorem gw_c_isSort9 : (w_c_isSort9).all goodWord = true := by decide +kernel
set_option maxHeartbeats 4000000 in
set_option maxRecDepth 100000 in
theorem c_isSort9 (l : Launch) (dC : Nat → ClassId) (dI : Nat → Nat → Nat) (p0 : Int32) : Met l yX9_isSort w_c_isSort9 ({ frames := 1, cells := 0, slots := 0, locals := 60 }) (kR dC dI [.int p0] [] [] kT) (vp_Si (fun r : Int32 => r = kSort p0)) 0 0 (fun _ => False) := by
  refine Met.ofW (cc := cX9_isSort) (maxL := 1) (ret := (some .boolean)) (by decide) rfl ?_
  intro p e s m args below meth c s₁ B hml hv
  obtain ⟨rfl, hP, hK, hX⟩ := hv
  have hx := B.exec
  have hb := B.bytes
  have hr := B.returns
  have hts := atoms_spec (ws := w_c_isSort9) B.pre
  have hown : s.vm.findClass RX9 = some m.cls := findClass_of_methodNamed B.named
  have hlocks := B.notSynchronized
  have hP : va_P (dC, dI) vwCl [] s.heap := hP
  have hl := lv_entry ([.int p0]) (n := 1) (Nat.le_of_ble_eq_true rfl)
  rw [lg_entry_eq]
  generalize (lg_sl ([.int p0]) ++ List.replicate (1 - (lg_sl ([.int p0])).length) Slot.unset).toArray = ls at hl ⊢
  have hl : lv_has ls 1 [(0, .int p0)] := hl
  refine lv_iload_n hx hb dX9_isSort_0 rfl (lv_at hl 0 rfl) ?_
  refine lv_if_eq (tgt := 9) hx hb dX9_isSort_1 (by decide) (fun c_1 => ?_) (fun c_1 => ?_)
  · refine lv_iconst (v := 1) hx hb dX9_isSort_9 (by decide) ?_
    refine lv_goto (tgt := 14) hx hb dX9_isSort_10 (by decide) ?_
    exact W.zret (v := 1) hx hb hr rfl (fun t ht hW => ⟨1, rfl, (by simp [kSort, c_1]), ht⟩) (fun _ h => nomatch h) dX9_isSort_14
  · refine lv_iload_n hx hb dX9_isSort_4 rfl (lv_at hl 0 rfl) ?_
    refine lv_iconst (v := 1) hx hb dX9_isSort_5 (by decide) ?_
    refine lv_icmp_ne (tgt := 13) hx hb dX9_isSort_6 (by decide) (fun c_2 => ?_) (fun c_2 => ?_)
    · refine lv_iconst (v := 0) hx hb dX9_isSort_13 (by decide) ?_
      exact W.zret (v := 0) hx hb hr rfl (fun t ht hW => ⟨0, rfl, (by simp [kSort, c_1, c_2]), ht⟩) (fun _ h => nomatch h) dX9_isSort_14
    · refine lv_iconst (v := 1) hx hb dX9_isSort_9 (by decide) ?_
      refine lv_goto (tgt := 14) hx hb dX9_isSort_10 (by decide) ?_
      exact W.zret (v := 1) hx hb hr rfl (fun t ht hW => ⟨1, rfl, (by simp [kSort, c_1, c_2]), ht⟩) (fun _ h => nomatch h) dX9_isSort_14

theorem dX9_within_0 : decode cX9_within 0 = .ok (.iload_n 0, 1) := by decide +kernel
theorem dX9_within_1 : decode cX9_within 1 = .ok (.iload_n 1, 1) := by decide +kernel
theorem dX9_within_2 : decode cX9_within 2 = .ok (.if_icmp .ge 5, 3) := by decide +kernel
theorem dX9_within_7 : decode cX9_within 7 = .ok (.iload_n 0, 1) := by decide +kernel
theorem dX9_within_8 : decode cX9_within 8 = .ok (.iload_n 2, 1) := by decide +kernel
theorem dX9_within_9 : decode cX9_within 9 = .ok (.if_icmp .le 7, 3) := by decide +kernel
theorem dX9_within_16 : decode cX9_within 16 = .ok (.iload_n 0, 1) := by decide +kernel
theorem dX9_within_17 : decode cX9_within 17 = .ok (.ireturn, 1) := by decide +kernel
theorem dX9_within_12 : decode cX9_within 12 = .ok (.iload_n 2, 1) := by decide +kernel
theorem dX9_within_13 : decode cX9_within 13 = .ok (.goto 4, 3) := by decide +kernel
theorem dX9_within_5 : decode cX9_within 5 = .ok (.iload_n 1, 1) := by decide +kernel
theorem dX9_within_6 : decode cX9_within 6 = .ok (.ireturn, 1) := by decide +kernel
def w_c_within9 : List Cond := .code yX9_within cX9_within 3 (some .int) :: ([])
theorem gw_c_within9 : (w_c_within9).all goodWord = true := by decide +kernel
set_option maxHeartbeats 4000000 in
set_option maxRecDepth 100000 in
theorem c_within9 (l : Launch) (dC : Nat → ClassId) (dI : Nat → Nat → Nat) (p0 : Int32) (p1 : Int32) (p2 : Int32) : Met l yX9_within w_c_within9 ({ frames := 1, cells := 0, slots := 0, locals := 60 }) (kR dC dI [.int p0, .int p1, .int p2] [] [] kT) (vp_Si (fun r : Int32 => True)) 0 0 (fun _ => False) := by
  refine Met.ofW (cc := cX9_within) (maxL := 3) (ret := (some .int)) (by decide) rfl ?_
  intro p e s m args below meth c s₁ B hml hv
  obtain ⟨rfl, hP, hK, hX⟩ := hv
  have hx := B.exec
  have hb := B.bytes
  have hr := B.returns
  have hts := atoms_spec (ws := w_c_within9) B.pre
  have hown : s.vm.findClass RX9 = some m.cls := findClass_of_methodNamed B.named
  have hlocks := B.notSynchronized
  have hP : va_P (dC, dI) vwCl [] s.heap := hP
  have hl := lv_entry ([.int p0, .int p1, .int p2]) (n := 3) (Nat.le_of_ble_eq_true rfl)
  rw [lg_entry_eq]
  generalize (lg_sl ([.int p0, .int p1, .int p2]) ++ List.replicate (3 - (lg_sl ([.int p0, .int p1, .int p2])).length) Slot.unset).toArray = ls at hl ⊢
  have hl : lv_has ls 3 [(0, .int p0), (1, .int p1), (2, .int p2)] := hl
  refine lv_iload_n hx hb dX9_within_0 rfl (lv_at hl 0 rfl) ?_
  refine lv_iload_n hx hb dX9_within_1 rfl (lv_at hl 1 rfl) ?_
  refine lv_icmp_ge (tgt := 7) hx hb dX9_within_2 (by decide) (fun c_1 => ?_) (fun c_1 => ?_)
  · refine lv_iload_n hx hb dX9_within_7 rfl (lv_at hl 0 rfl) ?_
    refine lv_iload_n hx hb dX9_within_8 rfl (lv_at hl 2 rfl) ?_
    refine lv_icmp_le (tgt := 16) hx hb dX9_within_9 (by decide) (fun c_2 => ?_) (fun c_2 => ?_)
    · refine lv_iload_n hx hb dX9_within_16 rfl (lv_at hl 0 rfl) ?_
      exact W.iret (v := p0) hx hb hr (fun t ht hW => ⟨p0, rfl, trivial, ht⟩) (fun _ h => nomatch h) dX9_within_17
    · refine lv_iload_n hx hb dX9_within_12 rfl (lv_at hl 2 rfl) ?_
      refine lv_goto (tgt := 17) hx hb dX9_within_13 (by decide) ?_
      exact W.iret (v := p2) hx hb hr (fun t ht hW => ⟨p2, rfl, trivial, ht⟩) (fun _ h => nomatch h) dX9_within_17
  · refine lv_iload_n hx hb dX9_within_5 rfl (lv_at hl 1 rfl) ?_
    exact W.iret (v := p1) hx hb hr (fun t ht hW => ⟨p1, rfl, trivial, ht⟩) (fun _ h => nomatch h) dX9_within_6

theorem dX8_bytesIn_0 : decode cX8_bytesIn 0 = .ok (.iconst 0, 1) := by decide +kernel
theorem dX8_bytesIn_1 : decode cX8_bytesIn 1 = .ok (.istore_n 1, 1) := by decide +kernel
theorem dX8_bytesIn_2 : decode cX8_bytesIn 2 = .ok (.bipush 24, 2) := by decide +kernel
theorem dX8_bytesIn_4 : decode cX8_bytesIn 4 = .ok (.istore_n 2, 1) := by decide +kernel
theorem dX8_bytesIn_5 : decode cX8_bytesIn 5 = .ok (.iload_n 2, 1) := by decide +kernel
theorem dX8_bytesIn_6 : decode cX8_bytesIn 6 = .ok (.ifCond .lt 22, 3) := by decide +kernel
theorem dX8_bytesIn_9 : decode cX8_bytesIn 9 = .ok (.iload_n 0, 1) := by decide +kernel
theorem dX8_bytesIn_10 : decode cX8_bytesIn 10 = .ok (.iload_n 2, 1) := by decide +kernel
theorem dX8_bytesIn_11 : decode cX8_bytesIn 11 = .ok (.iushr, 1) := by decide +kernel
theorem dX8_bytesIn_12 : decode cX8_bytesIn 12 = .ok (.sipush 255, 3) := by decide +kernel
theorem dX8_bytesIn_15 : decode cX8_bytesIn 15 = .ok (.iand, 1) := by decide +kernel
theorem dX8_bytesIn_16 : decode cX8_bytesIn 16 = .ok (.ifCond .eq 6, 3) := by decide +kernel
theorem dX8_bytesIn_22 : decode cX8_bytesIn 22 = .ok (.iinc 2 (-8), 3) := by decide +kernel
theorem dX8_bytesIn_25 : decode cX8_bytesIn 25 = .ok (.goto (-20), 3) := by decide +kernel
theorem dX8_bytesIn_28 : decode cX8_bytesIn 28 = .ok (.iload_n 1, 1) := by decide +kernel
theorem dX8_bytesIn_29 : decode cX8_bytesIn 29 = .ok (.ireturn, 1) := by decide +kernel
theorem dX8_bytesIn_19 : decode cX8_bytesIn 19 = .ok (.iinc 1 1, 3) := by decide +kernel
def w_c_bytes8 : List Cond := .code yX8_bytesIn cX8_bytesIn 3 (some .int) :: ([])
theorem gw_c_bytes8 : (w_c_bytes8).all goodWord = true := by decide +kernel
set_option maxHeartbeats 4000000 in
set_option maxRecDepth 100000 in
theorem c_bytes8 (l : Launch) (dC : Nat → ClassId) (dI : Nat → Nat → Nat) (p0 : Int32) : Met l yX8_bytesIn w_c_bytes8 ({ frames := 1, cells := 0, slots := 0, locals := 60 }) (kR dC dI [.int p0] [] [] kT) (vp_Si (fun r : Int32 => r = nI (kCnt p0))) 0 0 (fun _ => False) := by
  refine Met.ofW (cc := cX8_bytesIn) (maxL := 3) (ret := (some .int)) (by decide) rfl ?_
  intro p e s m args below meth c s₁ B hml hv
  obtain ⟨rfl, hP, hK, hX⟩ := hv
  have hx := B.exec
  have hb := B.bytes
  have hr := B.returns
  have hts := atoms_spec (ws := w_c_bytes8) B.pre
  have hown : s.vm.findClass RX8 = some m.cls := findClass_of_methodNamed B.named
  have hlocks := B.notSynchronized
  have hP : va_P (dC, dI) vwCl [] s.heap := hP
  have hl := lv_entry ([.int p0]) (n := 3) (Nat.le_of_ble_eq_true rfl)
  rw [lg_entry_eq]
  generalize (lg_sl ([.int p0]) ++ List.replicate (3 - (lg_sl ([.int p0])).length) Slot.unset).toArray = ls at hl ⊢
  have hl : lv_has ls 3 [(0, .int p0)] := hl
  refine lv_iconst (v := 0) hx hb dX8_bytesIn_0 (by decide) ?_
  refine lv_istore_n (lv' := [(1, .int 0), (0, .int p0)]) hx hb dX8_bytesIn_1 rfl hl (by decide) rfl (fun ls hl => ?_)
  refine lv_bipush (v := 24) hx hb dX8_bytesIn_2 (by decide) ?_
  refine lv_istore_n (lv' := [(2, .int 24), (1, .int 0), (0, .int p0)]) hx hb dX8_bytesIn_4 rfl hl (by decide) rfl (fun ls hl => ?_)
  refine lv_iload_n hx hb dX8_bytesIn_5 rfl (lv_at hl 0 rfl) ?_
  refine lv_if_lt (tgt := 28) hx hb dX8_bytesIn_6 (by decide) (fun c_1 => absurd c_1 (by decide)) (fun c_1 => ?_)
  refine lv_iload_n hx hb dX8_bytesIn_9 rfl (lv_at hl 2 rfl) ?_
  refine lv_iload_n hx hb dX8_bytesIn_10 rfl (lv_at hl 0 rfl) ?_
  obtain ⟨x_2, ex_2⟩ : ∃ z : Int32, z = (Int32.toUInt32 p0 >>> (Int32.toUInt32 24 &&& Int32.toUInt32 31)).toInt32 := ⟨_, rfl⟩
  refine lv_iushr (v := x_2) hx hb dX8_bytesIn_11 ex_2.symm ?_
  refine lv_sipush (v := 255) hx hb dX8_bytesIn_12 (by decide) ?_
  refine lv_iand hx hb dX8_bytesIn_15 ?_
  refine lv_topi (fun x_3 ex_3 => ?_)
  have hy_4 : kS p0 24 = x_3 := by rw [ex_3, ex_2]; exact (kSu24 p0).symm
  refine lv_if_eq (tgt := 22) hx hb dX8_bytesIn_16 (by decide) (fun c_5 => ?_) (fun c_5 => ?_)
  · refine lv_iinc (v := 16) (lv' := [(2, .int 16), (1, .int 0), (0, .int p0)]) hx hb dX8_bytesIn_22 hl (k := 0) rfl (by decide) (by decide) rfl (fun ls hl => ?_)
    refine lv_goto (tgt := 5) hx hb dX8_bytesIn_25 (by decide) ?_
    refine lv_iload_n hx hb dX8_bytesIn_5 rfl (lv_at hl 0 rfl) ?_
    refine lv_if_lt (tgt := 28) hx hb dX8_bytesIn_6 (by decide) (fun c_6 => absurd c_6 (by decide)) (fun c_6 => ?_)
    refine lv_iload_n hx hb dX8_bytesIn_9 rfl (lv_at hl 2 rfl) ?_
    refine lv_iload_n hx hb dX8_bytesIn_10 rfl (lv_at hl 0 rfl) ?_
    obtain ⟨x_7, ex_7⟩ : ∃ z : Int32, z = (Int32.toUInt32 p0 >>> (Int32.toUInt32 16 &&& Int32.toUInt32 31)).toInt32 := ⟨_, rfl⟩
    refine lv_iushr (v := x_7) hx hb dX8_bytesIn_11 ex_7.symm ?_
    refine lv_sipush (v := 255) hx hb dX8_bytesIn_12 (by decide) ?_
    refine lv_iand hx hb dX8_bytesIn_15 ?_
    refine lv_topi (fun x_8 ex_8 => ?_)
    have hy_9 : kS p0 16 = x_8 := by rw [ex_8, ex_7]; exact (kSu16 p0).symm
    refine lv_if_eq (tgt := 22) hx hb dX8_bytesIn_16 (by decide) (fun c_10 => ?_) (fun c_10 => ?_)
    · refine lv_iinc (v := 8) (lv' := [(2, .int 8), (1, .int 0), (0, .int p0)]) hx hb dX8_bytesIn_22 hl (k := 0) rfl (by decide) (by decide) rfl (fun ls hl => ?_)
      refine lv_goto (tgt := 5) hx hb dX8_bytesIn_25 (by decide) ?_
      refine lv_iload_n hx hb dX8_bytesIn_5 rfl (lv_at hl 0 rfl) ?_
      refine lv_if_lt (tgt := 28) hx hb dX8_bytesIn_6 (by decide) (fun c_11 => absurd c_11 (by decide)) (fun c_11 => ?_)
      refine lv_iload_n hx hb dX8_bytesIn_9 rfl (lv_at hl 2 rfl) ?_
      refine lv_iload_n hx hb dX8_bytesIn_10 rfl (lv_at hl 0 rfl) ?_
      obtain ⟨x_12, ex_12⟩ : ∃ z : Int32, z = (Int32.toUInt32 p0 >>> (Int32.toUInt32 8 &&& Int32.toUInt32 31)).toInt32 := ⟨_, rfl⟩
      refine lv_iushr (v := x_12) hx hb dX8_bytesIn_11 ex_12.symm ?_
      refine lv_sipush (v := 255) hx hb dX8_bytesIn_12 (by decide) ?_
      refine lv_iand hx hb dX8_bytesIn_15 ?_
      refine lv_topi (fun x_13 ex_13 => ?_)
      have hy_14 : kS p0 8 = x_13 := by rw [ex_13, ex_12]; exact (kSu8 p0).symm
      refine lv_if_eq (tgt := 22) hx hb dX8_bytesIn_16 (by decide) (fun c_15 => ?_) (fun c_15 => ?_)
      · refine lv_iinc (v := 0) (lv' := [(2, .int 0), (1, .int 0), (0, .int p0)]) hx hb dX8_bytesIn_22 hl (k := 0) rfl (by decide) (by decide) rfl (fun ls hl => ?_)
        refine lv_goto (tgt := 5) hx hb dX8_bytesIn_25 (by decide) ?_
        refine lv_iload_n hx hb dX8_bytesIn_5 rfl (lv_at hl 0 rfl) ?_
        refine lv_if_lt (tgt := 28) hx hb dX8_bytesIn_6 (by decide) (fun c_16 => absurd c_16 (by decide)) (fun c_16 => ?_)
        refine lv_iload_n hx hb dX8_bytesIn_9 rfl (lv_at hl 2 rfl) ?_
        refine lv_iload_n hx hb dX8_bytesIn_10 rfl (lv_at hl 0 rfl) ?_
        obtain ⟨x_17, ex_17⟩ : ∃ z : Int32, z = (Int32.toUInt32 p0 >>> (Int32.toUInt32 0 &&& Int32.toUInt32 31)).toInt32 := ⟨_, rfl⟩
        refine lv_iushr (v := x_17) hx hb dX8_bytesIn_11 ex_17.symm ?_
        refine lv_sipush (v := 255) hx hb dX8_bytesIn_12 (by decide) ?_
        refine lv_iand hx hb dX8_bytesIn_15 ?_
        refine lv_topi (fun x_18 ex_18 => ?_)
        have hy_19 : kS p0 0 = x_18 := by rw [ex_18, ex_17]; exact (kSu0 p0).symm
        refine lv_if_eq (tgt := 22) hx hb dX8_bytesIn_16 (by decide) (fun c_20 => ?_) (fun c_20 => ?_)
        · refine lv_iinc (v := (-8)) (lv' := [(2, .int (-8)), (1, .int 0), (0, .int p0)]) hx hb dX8_bytesIn_22 hl (k := 0) rfl (by decide) (by decide) rfl (fun ls hl => ?_)
          refine lv_goto (tgt := 5) hx hb dX8_bytesIn_25 (by decide) ?_
          refine lv_iload_n hx hb dX8_bytesIn_5 rfl (lv_at hl 0 rfl) ?_
          refine lv_if_lt (tgt := 28) hx hb dX8_bytesIn_6 (by decide) (fun c_21 => ?_) (fun c_21 => absurd (by decide) c_21)
          refine lv_iload_n hx hb dX8_bytesIn_28 rfl (lv_at hl 1 rfl) ?_
          have hk : kCnt p0 = 0 := by simp [kCnt, kC1, hy_4, hy_9, hy_14, hy_19, c_5, c_10, c_15, c_20]
          exact W.iret (v := 0) hx hb hr (fun t ht hW => ⟨0, rfl, (by rw [hk]; rfl), ht⟩) (fun _ h => nomatch h) dX8_bytesIn_29
        · refine lv_iinc (v := 1) (lv' := [(1, .int 1), (2, .int 0), (0, .int p0)]) hx hb dX8_bytesIn_19 hl (k := 1) rfl (by decide) (by decide) rfl (fun ls hl => ?_)
          refine lv_iinc (v := (-8)) (lv' := [(2, .int (-8)), (1, .int 1), (0, .int p0)]) hx hb dX8_bytesIn_22 hl (k := 1) rfl (by decide) (by decide) rfl (fun ls hl => ?_)
          refine lv_goto (tgt := 5) hx hb dX8_bytesIn_25 (by decide) ?_
          refine lv_iload_n hx hb dX8_bytesIn_5 rfl (lv_at hl 0 rfl) ?_
          refine lv_if_lt (tgt := 28) hx hb dX8_bytesIn_6 (by decide) (fun c_22 => ?_) (fun c_22 => absurd (by decide) c_22)
          refine lv_iload_n hx hb dX8_bytesIn_28 rfl (lv_at hl 1 rfl) ?_
          have hk : kCnt p0 = 1 := by simp [kCnt, kC1, hy_4, hy_9, hy_14, hy_19, c_5, c_10, c_15, c_20]
          exact W.iret (v := 1) hx hb hr (fun t ht hW => ⟨1, rfl, (by rw [hk]; rfl), ht⟩) (fun _ h => nomatch h) dX8_bytesIn_29
      · refine lv_iinc (v := 1) (lv' := [(1, .int 1), (2, .int 8), (0, .int p0)]) hx hb dX8_bytesIn_19 hl (k := 1) rfl (by decide) (by decide) rfl (fun ls hl => ?_)
        refine lv_iinc (v := 0) (lv' := [(2, .int 0), (1, .int 1), (0, .int p0)]) hx hb dX8_bytesIn_22 hl (k := 1) rfl (by decide) (by decide) rfl (fun ls hl => ?_)
        refine lv_goto (tgt := 5) hx hb dX8_bytesIn_25 (by decide) ?_
        refine lv_iload_n hx hb dX8_bytesIn_5 rfl (lv_at hl 0 rfl) ?_
        refine lv_if_lt (tgt := 28) hx hb dX8_bytesIn_6 (by decide) (fun c_23 => absurd c_23 (by decide)) (fun c_23 => ?_)
        refine lv_iload_n hx hb dX8_bytesIn_9 rfl (lv_at hl 2 rfl) ?_
        refine lv_iload_n hx hb dX8_bytesIn_10 rfl (lv_at hl 0 rfl) ?_
        obtain ⟨x_24, ex_24⟩ : ∃ z : Int32, z = (Int32.toUInt32 p0 >>> (Int32.toUInt32 0 &&& Int32.toUInt32 31)).toInt32 := ⟨_, rfl⟩
        refine lv_iushr (v := x_24) hx hb dX8_bytesIn_11 ex_24.symm ?_
        refine lv_sipush (v := 255) hx hb dX8_bytesIn_12 (by decide) ?_
        refine lv_iand hx hb dX8_bytesIn_15 ?_
        refine lv_topi (fun x_25 ex_25 => ?_)
        have hy_26 : kS p0 0 = x_25 := by rw [ex_25, ex_24]; exact (kSu0 p0).symm
        refine lv_if_eq (tgt := 22) hx hb dX8_bytesIn_16 (by decide) (fun c_27 => ?_) (fun c_27 => ?_)
        · refine lv_iinc (v := (-8)) (lv' := [(2, .int (-8)), (1, .int 1), (0, .int p0)]) hx hb dX8_bytesIn_22 hl (k := 0) rfl (by decide) (by decide) rfl (fun ls hl => ?_)
          refine lv_goto (tgt := 5) hx hb dX8_bytesIn_25 (by decide) ?_
          refine lv_iload_n hx hb dX8_bytesIn_5 rfl (lv_at hl 0 rfl) ?_
          refine lv_if_lt (tgt := 28) hx hb dX8_bytesIn_6 (by decide) (fun c_28 => ?_) (fun c_28 => absurd (by decide) c_28)
          refine lv_iload_n hx hb dX8_bytesIn_28 rfl (lv_at hl 1 rfl) ?_
          have hk : kCnt p0 = 1 := by simp [kCnt, kC1, hy_4, hy_9, hy_14, hy_26, c_5, c_10, c_15, c_27]
          exact W.iret (v := 1) hx hb hr (fun t ht hW => ⟨1, rfl, (by rw [hk]; rfl), ht⟩) (fun _ h => nomatch h) dX8_bytesIn_29
        · refine lv_iinc (v := 2) (lv' := [(1, .int 2), (2, .int 0), (0, .int p0)]) hx hb dX8_bytesIn_19 hl (k := 1) rfl (by decide) (by decide) rfl (fun ls hl => ?_)
          refine lv_iinc (v := (-8)) (lv' := [(2, .int (-8)), (1, .int 2), (0, .int p0)]) hx hb dX8_bytesIn_22 hl (k := 1) rfl (by decide) (by decide) rfl (fun ls hl => ?_)
          refine lv_goto (tgt := 5) hx hb dX8_bytesIn_25 (by decide) ?_
          refine lv_iload_n hx hb dX8_bytesIn_5 rfl (lv_at hl 0 rfl) ?_
          refine lv_if_lt (tgt := 28) hx hb dX8_bytesIn_6 (by decide) (fun c_29 => ?_) (fun c_29 => absurd (by decide) c_29)
          refine lv_iload_n hx hb dX8_bytesIn_28 rfl (lv_at hl 1 rfl) ?_
          have hk : kCnt p0 = 2 := by simp [kCnt, kC1, hy_4, hy_9, hy_14, hy_26, c_5, c_10, c_15, c_27]
          exact W.iret (v := 2) hx hb hr (fun t ht hW => ⟨2, rfl, (by rw [hk]; rfl), ht⟩) (fun _ h => nomatch h) dX8_bytesIn_29
    · refine lv_iinc (v := 1) (lv' := [(1, .int 1), (2, .int 16), (0, .int p0)]) hx hb dX8_bytesIn_19 hl (k := 1) rfl (by decide) (by decide) rfl (fun ls hl => ?_)
      refine lv_iinc (v := 8) (lv' := [(2, .int 8), (1, .int 1), (0, .int p0)]) hx hb dX8_bytesIn_22 hl (k := 1) rfl (by decide) (by decide) rfl (fun ls hl => ?_)
      refine lv_goto (tgt := 5) hx hb dX8_bytesIn_25 (by decide) ?_
      refine lv_iload_n hx hb dX8_bytesIn_5 rfl (lv_at hl 0 rfl) ?_
      refine lv_if_lt (tgt := 28) hx hb dX8_bytesIn_6 (by decide) (fun c_30 => absurd c_30 (by decide)) (fun c_30 => ?_)
      refine lv_iload_n hx hb dX8_bytesIn_9 rfl (lv_at hl 2 rfl) ?_
      refine lv_iload_n hx hb dX8_bytesIn_10 rfl (lv_at hl 0 rfl) ?_
      obtain ⟨x_31, ex_31⟩ : ∃ z : Int32, z = (Int32.toUInt32 p0 >>> (Int32.toUInt32 8 &&& Int32.toUInt32 31)).toInt32 := ⟨_, rfl⟩
      refine lv_iushr (v := x_31) hx hb dX8_bytesIn_11 ex_31.symm ?_
      refine lv_sipush (v := 255) hx hb dX8_bytesIn_12 (by decide) ?_
      refine lv_iand hx hb dX8_bytesIn_15 ?_
      refine lv_topi (fun x_32 ex_32 => ?_)
      have hy_33 : kS p0 8 = x_32 := by rw [ex_32, ex_31]; exact (kSu8 p0).symm
      refine lv_if_eq (tgt := 22) hx hb dX8_bytesIn_16 (by decide) (fun c_34 => ?_) (fun c_34 => ?_)
      · refine lv_iinc (v := 0) (lv' := [(2, .int 0), (1, .int 1), (0, .int p0)]) hx hb dX8_bytesIn_22 hl (k := 0) rfl (by decide) (by decide) rfl (fun ls hl => ?_)
        refine lv_goto (tgt := 5) hx hb dX8_bytesIn_25 (by decide) ?_
        refine lv_iload_n hx hb dX8_bytesIn_5 rfl (lv_at hl 0 rfl) ?_
        refine lv_if_lt (tgt := 28) hx hb dX8_bytesIn_6 (by decide) (fun c_35 => absurd c_35 (by decide)) (fun c_35 => ?_)
        refine lv_iload_n hx hb dX8_bytesIn_9 rfl (lv_at hl 2 rfl) ?_
        refine lv_iload_n hx hb dX8_bytesIn_10 rfl (lv_at hl 0 rfl) ?_
        obtain ⟨x_36, ex_36⟩ : ∃ z : Int32, z = (Int32.toUInt32 p0 >>> (Int32.toUInt32 0 &&& Int32.toUInt32 31)).toInt32 := ⟨_, rfl⟩
        refine lv_iushr (v := x_36) hx hb dX8_bytesIn_11 ex_36.symm ?_
        refine lv_sipush (v := 255) hx hb dX8_bytesIn_12 (by decide) ?_
        refine lv_iand hx hb dX8_bytesIn_15 ?_
        refine lv_topi (fun x_37 ex_37 => ?_)
        have hy_38 : kS p0 0 = x_37 := by rw [ex_37, ex_36]; exact (kSu0 p0).symm
        refine lv_if_eq (tgt := 22) hx hb dX8_bytesIn_16 (by decide) (fun c_39 => ?_) (fun c_39 => ?_)
        · refine lv_iinc (v := (-8)) (lv' := [(2, .int (-8)), (1, .int 1), (0, .int p0)]) hx hb dX8_bytesIn_22 hl (k := 0) rfl (by decide) (by decide) rfl (fun ls hl => ?_)
          refine lv_goto (tgt := 5) hx hb dX8_bytesIn_25 (by decide) ?_
          refine lv_iload_n hx hb dX8_bytesIn_5 rfl (lv_at hl 0 rfl) ?_
          refine lv_if_lt (tgt := 28) hx hb dX8_bytesIn_6 (by decide) (fun c_40 => ?_) (fun c_40 => absurd (by decide) c_40)
          refine lv_iload_n hx hb dX8_bytesIn_28 rfl (lv_at hl 1 rfl) ?_
          have hk : kCnt p0 = 1 := by simp [kCnt, kC1, hy_4, hy_9, hy_33, hy_38, c_5, c_10, c_34, c_39]
          exact W.iret (v := 1) hx hb hr (fun t ht hW => ⟨1, rfl, (by rw [hk]; rfl), ht⟩) (fun _ h => nomatch h) dX8_bytesIn_29
        · refine lv_iinc (v := 2) (lv' := [(1, .int 2), (2, .int 0), (0, .int p0)]) hx hb dX8_bytesIn_19 hl (k := 1) rfl (by decide) (by decide) rfl (fun ls hl => ?_)
          refine lv_iinc (v := (-8)) (lv' := [(2, .int (-8)), (1, .int 2), (0, .int p0)]) hx hb dX8_bytesIn_22 hl (k := 1) rfl (by decide) (by decide) rfl (fun ls hl => ?_)
          refine lv_goto (tgt := 5) hx hb dX8_bytesIn_25 (by decide) ?_
          refine lv_iload_n hx hb dX8_bytesIn_5 rfl (lv_at hl 0 rfl) ?_
          refine lv_if_lt (tgt := 28) hx hb dX8_bytesIn_6 (by decide) (fun c_41 => ?_) (fun c_41 => absurd (by decide) c_41)
          refine lv_iload_n hx hb dX8_bytesIn_28 rfl (lv_at hl 1 rfl) ?_
          have hk : kCnt p0 = 2 := by simp [kCnt, kC1, hy_4, hy_9, hy_33, hy_38, c_5, c_10, c_34, c_39]
          exact W.iret (v := 2) hx hb hr (fun t ht hW => ⟨2, rfl, (by rw [hk]; rfl), ht⟩) (fun _ h => nomatch h) dX8_bytesIn_29
      · refine lv_iinc (v := 2) (lv' := [(1, .int 2), (2, .int 8), (0, .int p0)]) hx hb dX8_bytesIn_19 hl (k := 1) rfl (by decide) (by decide) rfl (fun ls hl => ?_)
        refine lv_iinc (v := 0) (lv' := [(2, .int 0), (1, .int 2), (0, .int p0)]) hx hb dX8_bytesIn_22 hl (k := 1) rfl (by decide) (by decide) rfl (fun ls hl => ?_)
        refine lv_goto (tgt := 5) hx hb dX8_bytesIn_25 (by decide) ?_
        refine lv_iload_n hx hb dX8_bytesIn_5 rfl (lv_at hl 0 rfl) ?_
        refine lv_if_lt (tgt := 28) hx hb dX8_bytesIn_6 (by decide) (fun c_42 => absurd c_42 (by decide)) (fun c_42 => ?_)
        refine lv_iload_n hx hb dX8_bytesIn_9 rfl (lv_at hl 2 rfl) ?_
        refine lv_iload_n hx hb dX8_bytesIn_10 rfl (lv_at hl 0 rfl) ?_
        obtain ⟨x_43, ex_43⟩ : ∃ z : Int32, z = (Int32.toUInt32 p0 >>> (Int32.toUInt32 0 &&& Int32.toUInt32 31)).toInt32 := ⟨_, rfl⟩
        refine lv_iushr (v := x_43) hx hb dX8_bytesIn_11 ex_43.symm ?_
        refine lv_sipush (v := 255) hx hb dX8_bytesIn_12 (by decide) ?_
        refine lv_iand hx hb dX8_bytesIn_15 ?_
        refine lv_topi (fun x_44 ex_44 => ?_)
        have hy_45 : kS p0 0 = x_44 := by rw [ex_44, ex_43]; exact (kSu0 p0).symm
        refine lv_if_eq (tgt := 22) hx hb dX8_bytesIn_16 (by decide) (fun c_46 => ?_) (fun c_46 => ?_)
        · refine lv_iinc (v := (-8)) (lv' := [(2, .int (-8)), (1, .int 2), (0, .int p0)]) hx hb dX8_bytesIn_22 hl (k := 0) rfl (by decide) (by decide) rfl (fun ls hl => ?_)
          refine lv_goto (tgt := 5) hx hb dX8_bytesIn_25 (by decide) ?_
          refine lv_iload_n hx hb dX8_bytesIn_5 rfl (lv_at hl 0 rfl) ?_
          refine lv_if_lt (tgt := 28) hx hb dX8_bytesIn_6 (by decide) (fun c_47 => ?_) (fun c_47 => absurd (by decide) c_47)
          refine lv_iload_n hx hb dX8_bytesIn_28 rfl (lv_at hl 1 rfl) ?_
          have hk : kCnt p0 = 2 := by simp [kCnt, kC1, hy_4, hy_9, hy_33, hy_45, c_5, c_10, c_34, c_46]
          exact W.iret (v := 2) hx hb hr (fun t ht hW => ⟨2, rfl, (by rw [hk]; rfl), ht⟩) (fun _ h => nomatch h) dX8_bytesIn_29
        · refine lv_iinc (v := 3) (lv' := [(1, .int 3), (2, .int 0), (0, .int p0)]) hx hb dX8_bytesIn_19 hl (k := 1) rfl (by decide) (by decide) rfl (fun ls hl => ?_)
          refine lv_iinc (v := (-8)) (lv' := [(2, .int (-8)), (1, .int 3), (0, .int p0)]) hx hb dX8_bytesIn_22 hl (k := 1) rfl (by decide) (by decide) rfl (fun ls hl => ?_)
          refine lv_goto (tgt := 5) hx hb dX8_bytesIn_25 (by decide) ?_
          refine lv_iload_n hx hb dX8_bytesIn_5 rfl (lv_at hl 0 rfl) ?_
          refine lv_if_lt (tgt := 28) hx hb dX8_bytesIn_6 (by decide) (fun c_48 => ?_) (fun c_48 => absurd (by decide) c_48)
          refine lv_iload_n hx hb dX8_bytesIn_28 rfl (lv_at hl 1 rfl) ?_
          have hk : kCnt p0 = 3 := by simp [kCnt, kC1, hy_4, hy_9, hy_33, hy_45, c_5, c_10, c_34, c_46]
          exact W.iret (v := 3) hx hb hr (fun t ht hW => ⟨3, rfl, (by rw [hk]; rfl), ht⟩) (fun _ h => nomatch h) dX8_bytesIn_29
  · refine lv_iinc (v := 1) (lv' := [(1, .int 1), (2, .int 24), (0, .int p0)]) hx hb dX8_bytesIn_19 hl (k := 1) rfl (by decide) (by decide) rfl (fun ls hl => ?_)
    refine lv_iinc (v := 16) (lv' := [(2, .int 16), (1, .int 1), (0, .int p0)]) hx hb dX8_bytesIn_22 hl (k := 1) rfl (by decide) (by decide) rfl (fun ls hl => ?_)
    refine lv_goto (tgt := 5) hx hb dX8_bytesIn_25 (by decide) ?_
    refine lv_iload_n hx hb dX8_bytesIn_5 rfl (lv_at hl 0 rfl) ?_
    refine lv_if_lt (tgt := 28) hx hb dX8_bytesIn_6 (by decide) (fun c_49 => absurd c_49 (by decide)) (fun c_49 => ?_)
    refine lv_iload_n hx hb dX8_bytesIn_9 rfl (lv_at hl 2 rfl) ?_
    refine lv_iload_n hx hb dX8_bytesIn_10 rfl (lv_at hl 0 rfl) ?_
    obtain ⟨x_50, ex_50⟩ : ∃ z : Int32, z = (Int32.toUInt32 p0 >>> (Int32.toUInt32 16 &&& Int32.toUInt32 31)).toInt32 := ⟨_, rfl⟩
    refine lv_iushr (v := x_50) hx hb dX8_bytesIn_11 ex_50.symm ?_
    refine lv_sipush (v := 255) hx hb dX8_bytesIn_12 (by decide) ?_
    refine lv_iand hx hb dX8_bytesIn_15 ?_
    refine lv_topi (fun x_51 ex_51 => ?_)
    have hy_52 : kS p0 16 = x_51 := by rw [ex_51, ex_50]; exact (kSu16 p0).symm
    refine lv_if_eq (tgt := 22) hx hb dX8_bytesIn_16 (by decide) (fun c_53 => ?_) (fun c_53 => ?_)
    · refine lv_iinc (v := 8) (lv' := [(2, .int 8), (1, .int 1), (0, .int p0)]) hx hb dX8_bytesIn_22 hl (k := 0) rfl (by decide) (by decide) rfl (fun ls hl => ?_)
      refine lv_goto (tgt := 5) hx hb dX8_bytesIn_25 (by decide) ?_
      refine lv_iload_n hx hb dX8_bytesIn_5 rfl (lv_at hl 0 rfl) ?_
      refine lv_if_lt (tgt := 28) hx hb dX8_bytesIn_6 (by decide) (fun c_54 => absurd c_54 (by decide)) (fun c_54 => ?_)
      refine lv_iload_n hx hb dX8_bytesIn_9 rfl (lv_at hl 2 rfl) ?_
      refine lv_iload_n hx hb dX8_bytesIn_10 rfl (lv_at hl 0 rfl) ?_
      obtain ⟨x_55, ex_55⟩ : ∃ z : Int32, z = (Int32.toUInt32 p0 >>> (Int32.toUInt32 8 &&& Int32.toUInt32 31)).toInt32 := ⟨_, rfl⟩
      refine lv_iushr (v := x_55) hx hb dX8_bytesIn_11 ex_55.symm ?_
      refine lv_sipush (v := 255) hx hb dX8_bytesIn_12 (by decide) ?_
      refine lv_iand hx hb dX8_bytesIn_15 ?_
      refine lv_topi (fun x_56 ex_56 => ?_)
      have hy_57 : kS p0 8 = x_56 := by rw [ex_56, ex_55]; exact (kSu8 p0).symm
      refine lv_if_eq (tgt := 22) hx hb dX8_bytesIn_16 (by decide) (fun c_58 => ?_) (fun c_58 => ?_)
      · refine lv_iinc (v := 0) (lv' := [(2, .int 0), (1, .int 1), (0, .int p0)]) hx hb dX8_bytesIn_22 hl (k := 0) rfl (by decide) (by decide) rfl (fun ls hl => ?_)
        refine lv_goto (tgt := 5) hx hb dX8_bytesIn_25 (by decide) ?_
        refine lv_iload_n hx hb dX8_bytesIn_5 rfl (lv_at hl 0 rfl) ?_
        refine lv_if_lt (tgt := 28) hx hb dX8_bytesIn_6 (by decide) (fun c_59 => absurd c_59 (by decide)) (fun c_59 => ?_)
        refine lv_iload_n hx hb dX8_bytesIn_9 rfl (lv_at hl 2 rfl) ?_
        refine lv_iload_n hx hb dX8_bytesIn_10 rfl (lv_at hl 0 rfl) ?_
        obtain ⟨x_60, ex_60⟩ : ∃ z : Int32, z = (Int32.toUInt32 p0 >>> (Int32.toUInt32 0 &&& Int32.toUInt32 31)).toInt32 := ⟨_, rfl⟩
        refine lv_iushr (v := x_60) hx hb dX8_bytesIn_11 ex_60.symm ?_
        refine lv_sipush (v := 255) hx hb dX8_bytesIn_12 (by decide) ?_
        refine lv_iand hx hb dX8_bytesIn_15 ?_
        refine lv_topi (fun x_61 ex_61 => ?_)
        have hy_62 : kS p0 0 = x_61 := by rw [ex_61, ex_60]; exact (kSu0 p0).symm
        refine lv_if_eq (tgt := 22) hx hb dX8_bytesIn_16 (by decide) (fun c_63 => ?_) (fun c_63 => ?_)
        · refine lv_iinc (v := (-8)) (lv' := [(2, .int (-8)), (1, .int 1), (0, .int p0)]) hx hb dX8_bytesIn_22 hl (k := 0) rfl (by decide) (by decide) rfl (fun ls hl => ?_)
          refine lv_goto (tgt := 5) hx hb dX8_bytesIn_25 (by decide) ?_
          refine lv_iload_n hx hb dX8_bytesIn_5 rfl (lv_at hl 0 rfl) ?_
          refine lv_if_lt (tgt := 28) hx hb dX8_bytesIn_6 (by decide) (fun c_64 => ?_) (fun c_64 => absurd (by decide) c_64)
          refine lv_iload_n hx hb dX8_bytesIn_28 rfl (lv_at hl 1 rfl) ?_
          have hk : kCnt p0 = 1 := by simp [kCnt, kC1, hy_4, hy_52, hy_57, hy_62, c_5, c_53, c_58, c_63]
          exact W.iret (v := 1) hx hb hr (fun t ht hW => ⟨1, rfl, (by rw [hk]; rfl), ht⟩) (fun _ h => nomatch h) dX8_bytesIn_29
        · refine lv_iinc (v := 2) (lv' := [(1, .int 2), (2, .int 0), (0, .int p0)]) hx hb dX8_bytesIn_19 hl (k := 1) rfl (by decide) (by decide) rfl (fun ls hl => ?_)
          refine lv_iinc (v := (-8)) (lv' := [(2, .int (-8)), (1, .int 2), (0, .int p0)]) hx hb dX8_bytesIn_22 hl (k := 1) rfl (by decide) (by decide) rfl (fun ls hl => ?_)
          refine lv_goto (tgt := 5) hx hb dX8_bytesIn_25 (by decide) ?_
          refine lv_iload_n hx hb dX8_bytesIn_5 rfl (lv_at hl 0 rfl) ?_
          refine lv_if_lt (tgt := 28) hx hb dX8_bytesIn_6 (by decide) (fun c_65 => ?_) (fun c_65 => absurd (by decide) c_65)
          refine lv_iload_n hx hb dX8_bytesIn_28 rfl (lv_at hl 1 rfl) ?_
          have hk : kCnt p0 = 2 := by simp [kCnt, kC1, hy_4, hy_52, hy_57, hy_62, c_5, c_53, c_58, c_63]
          exact W.iret (v := 2) hx hb hr (fun t ht hW => ⟨2, rfl, (by rw [hk]; rfl), ht⟩) (fun _ h => nomatch h) dX8_bytesIn_29
      · refine lv_iinc (v := 2) (lv' := [(1, .int 2), (2, .int 8), (0, .int p0)]) hx hb dX8_bytesIn_19 hl (k := 1) rfl (by decide) (by decide) rfl (fun ls hl => ?_)
        refine lv_iinc (v := 0) (lv' := [(2, .int 0), (1, .int 2), (0, .int p0)]) hx hb dX8_bytesIn_22 hl (k := 1) rfl (by decide) (by decide) rfl (fun ls hl => ?_)
        refine lv_goto (tgt := 5) hx hb dX8_bytesIn_25 (by decide) ?_
        refine lv_iload_n hx hb dX8_bytesIn_5 rfl (lv_at hl 0 rfl) ?_
        refine lv_if_lt (tgt := 28) hx hb dX8_bytesIn_6 (by decide) (fun c_66 => absurd c_66 (by decide)) (fun c_66 => ?_)
        refine lv_iload_n hx hb dX8_bytesIn_9 rfl (lv_at hl 2 rfl) ?_
        refine lv_iload_n hx hb dX8_bytesIn_10 rfl (lv_at hl 0 rfl) ?_
        obtain ⟨x_67, ex_67⟩ : ∃ z : Int32, z = (Int32.toUInt32 p0 >>> (Int32.toUInt32 0 &&& Int32.toUInt32 31)).toInt32 := ⟨_, rfl⟩
        refine lv_iushr (v := x_67) hx hb dX8_bytesIn_11 ex_67.symm ?_
        refine lv_sipush (v := 255) hx hb dX8_bytesIn_12 (by decide) ?_
        refine lv_iand hx hb dX8_bytesIn_15 ?_
        refine lv_topi (fun x_68 ex_68 => ?_)
        have hy_69 : kS p0 0 = x_68 := by rw [ex_68, ex_67]; exact (kSu0 p0).symm
        refine lv_if_eq (tgt := 22) hx hb dX8_bytesIn_16 (by decide) (fun c_70 => ?_) (fun c_70 => ?_)
        · refine lv_iinc (v := (-8)) (lv' := [(2, .int (-8)), (1, .int 2), (0, .int p0)]) hx hb dX8_bytesIn_22 hl (k := 0) rfl (by decide) (by decide) rfl (fun ls hl => ?_)
          refine lv_goto (tgt := 5) hx hb dX8_bytesIn_25 (by decide) ?_
          refine lv_iload_n hx hb dX8_bytesIn_5 rfl (lv_at hl 0 rfl) ?_
          refine lv_if_lt (tgt := 28) hx hb dX8_bytesIn_6 (by decide) (fun c_71 => ?_) (fun c_71 => absurd (by decide) c_71)
          refine lv_iload_n hx hb dX8_bytesIn_28 rfl (lv_at hl 1 rfl) ?_
          have hk : kCnt p0 = 2 := by simp [kCnt, kC1, hy_4, hy_52, hy_57, hy_69, c_5, c_53, c_58, c_70]
          exact W.iret (v := 2) hx hb hr (fun t ht hW => ⟨2, rfl, (by rw [hk]; rfl), ht⟩) (fun _ h => nomatch h) dX8_bytesIn_29
        · refine lv_iinc (v := 3) (lv' := [(1, .int 3), (2, .int 0), (0, .int p0)]) hx hb dX8_bytesIn_19 hl (k := 1) rfl (by decide) (by decide) rfl (fun ls hl => ?_)
          refine lv_iinc (v := (-8)) (lv' := [(2, .int (-8)), (1, .int 3), (0, .int p0)]) hx hb dX8_bytesIn_22 hl (k := 1) rfl (by decide) (by decide) rfl (fun ls hl => ?_)
          refine lv_goto (tgt := 5) hx hb dX8_bytesIn_25 (by decide) ?_
          refine lv_iload_n hx hb dX8_bytesIn_5 rfl (lv_at hl 0 rfl) ?_
          refine lv_if_lt (tgt := 28) hx hb dX8_bytesIn_6 (by decide) (fun c_72 => ?_) (fun c_72 => absurd (by decide) c_72)
          refine lv_iload_n hx hb dX8_bytesIn_28 rfl (lv_at hl 1 rfl) ?_
          have hk : kCnt p0 = 3 := by simp [kCnt, kC1, hy_4, hy_52, hy_57, hy_69, c_5, c_53, c_58, c_70]
          exact W.iret (v := 3) hx hb hr (fun t ht hW => ⟨3, rfl, (by rw [hk]; rfl), ht⟩) (fun _ h => nomatch h) dX8_bytesIn_29
    · refine lv_iinc (v := 2) (lv' := [(1, .int 2), (2, .int 16), (0, .int p0)]) hx hb dX8_bytesIn_19 hl (k := 1) rfl (by decide) (by decide) rfl (fun ls hl => ?_)
      refine lv_iinc (v := 8) (lv' := [(2, .int 8), (1, .int 2), (0, .int p0)]) hx hb dX8_bytesIn_22 hl (k := 1) rfl (by decide) (by decide) rfl (fun ls hl => ?_)
      refine lv_goto (tgt := 5) hx hb dX8_bytesIn_25 (by decide) ?_
      refine lv_iload_n hx hb dX8_bytesIn_5 rfl (lv_at hl 0 rfl) ?_
      refine lv_if_lt (tgt := 28) hx hb dX8_bytesIn_6 (by decide) (fun c_73 => absurd c_73 (by decide)) (fun c_73 => ?_)
      refine lv_iload_n hx hb dX8_bytesIn_9 rfl (lv_at hl 2 rfl) ?_
      refine lv_iload_n hx hb dX8_bytesIn_10 rfl (lv_at hl 0 rfl) ?_
      obtain ⟨x_74, ex_74⟩ : ∃ z : Int32, z = (Int32.toUInt32 p0 >>> (Int32.toUInt32 8 &&& Int32.toUInt32 31)).toInt32 := ⟨_, rfl⟩
      refine lv_iushr (v := x_74) hx hb dX8_bytesIn_11 ex_74.symm ?_
      refine lv_sipush (v := 255) hx hb dX8_bytesIn_12 (by decide) ?_
      refine lv_iand hx hb dX8_bytesIn_15 ?_
      refine lv_topi (fun x_75 ex_75 => ?_)
      have hy_76 : kS p0 8 = x_75 := by rw [ex_75, ex_74]; exact (kSu8 p0).symm
      refine lv_if_eq (tgt := 22) hx hb dX8_bytesIn_16 (by decide) (fun c_77 => ?_) (fun c_77 => ?_)
      · refine lv_iinc (v := 0) (lv' := [(2, .int 0), (1, .int 2), (0, .int p0)]) hx hb dX8_bytesIn_22 hl (k := 0) rfl (by decide) (by decide) rfl (fun ls hl => ?_)
        refine lv_goto (tgt := 5) hx hb dX8_bytesIn_25 (by decide) ?_
        refine lv_iload_n hx hb dX8_bytesIn_5 rfl (lv_at hl 0 rfl) ?_
        refine lv_if_lt (tgt := 28) hx hb dX8_bytesIn_6 (by decide) (fun c_78 => absurd c_78 (by decide)) (fun c_78 => ?_)
        refine lv_iload_n hx hb dX8_bytesIn_9 rfl (lv_at hl 2 rfl) ?_
        refine lv_iload_n hx hb dX8_bytesIn_10 rfl (lv_at hl 0 rfl) ?_
        obtain ⟨x_79, ex_79⟩ : ∃ z : Int32, z = (Int32.toUInt32 p0 >>> (Int32.toUInt32 0 &&& Int32.toUInt32 31)).toInt32 := ⟨_, rfl⟩
        refine lv_iushr (v := x_79) hx hb dX8_bytesIn_11 ex_79.symm ?_
        refine lv_sipush (v := 255) hx hb dX8_bytesIn_12 (by decide) ?_
        refine lv_iand hx hb dX8_bytesIn_15 ?_
        refine lv_topi (fun x_80 ex_80 => ?_)
        have hy_81 : kS p0 0 = x_80 := by rw [ex_80, ex_79]; exact (kSu0 p0).symm
        refine lv_if_eq (tgt := 22) hx hb dX8_bytesIn_16 (by decide) (fun c_82 => ?_) (fun c_82 => ?_)
        · refine lv_iinc (v := (-8)) (lv' := [(2, .int (-8)), (1, .int 2), (0, .int p0)]) hx hb dX8_bytesIn_22 hl (k := 0) rfl (by decide) (by decide) rfl (fun ls hl => ?_)
          refine lv_goto (tgt := 5) hx hb dX8_bytesIn_25 (by decide) ?_
          refine lv_iload_n hx hb dX8_bytesIn_5 rfl (lv_at hl 0 rfl) ?_
          refine lv_if_lt (tgt := 28) hx hb dX8_bytesIn_6 (by decide) (fun c_83 => ?_) (fun c_83 => absurd (by decide) c_83)
          refine lv_iload_n hx hb dX8_bytesIn_28 rfl (lv_at hl 1 rfl) ?_
          have hk : kCnt p0 = 2 := by simp [kCnt, kC1, hy_4, hy_52, hy_76, hy_81, c_5, c_53, c_77, c_82]
          exact W.iret (v := 2) hx hb hr (fun t ht hW => ⟨2, rfl, (by rw [hk]; rfl), ht⟩) (fun _ h => nomatch h) dX8_bytesIn_29
        · refine lv_iinc (v := 3) (lv' := [(1, .int 3), (2, .int 0), (0, .int p0)]) hx hb dX8_bytesIn_19 hl (k := 1) rfl (by decide) (by decide) rfl (fun ls hl => ?_)
          refine lv_iinc (v := (-8)) (lv' := [(2, .int (-8)), (1, .int 3), (0, .int p0)]) hx hb dX8_bytesIn_22 hl (k := 1) rfl (by decide) (by decide) rfl (fun ls hl => ?_)
          refine lv_goto (tgt := 5) hx hb dX8_bytesIn_25 (by decide) ?_
          refine lv_iload_n hx hb dX8_bytesIn_5 rfl (lv_at hl 0 rfl) ?_
          refine lv_if_lt (tgt := 28) hx hb dX8_bytesIn_6 (by decide) (fun c_84 => ?_) (fun c_84 => absurd (by decide) c_84)
          refine lv_iload_n hx hb dX8_bytesIn_28 rfl (lv_at hl 1 rfl) ?_
          have hk : kCnt p0 = 3 := by simp [kCnt, kC1, hy_4, hy_52, hy_76, hy_81, c_5, c_53, c_77, c_82]
          exact W.iret (v := 3) hx hb hr (fun t ht hW => ⟨3, rfl, (by rw [hk]; rfl), ht⟩) (fun _ h => nomatch h) dX8_bytesIn_29
      · refine lv_iinc (v := 3) (lv' := [(1, .int 3), (2, .int 8), (0, .int p0)]) hx hb dX8_bytesIn_19 hl (k := 1) rfl (by decide) (by decide) rfl (fun ls hl => ?_)
        refine lv_iinc (v := 0) (lv' := [(2, .int 0), (1, .int 3), (0, .int p0)]) hx hb dX8_bytesIn_22 hl (k := 1) rfl (by decide) (by decide) rfl (fun ls hl => ?_)
        refine lv_goto (tgt := 5) hx hb dX8_bytesIn_25 (by decide) ?_
        refine lv_iload_n hx hb dX8_bytesIn_5 rfl (lv_at hl 0 rfl) ?_
        refine lv_if_lt (tgt := 28) hx hb dX8_bytesIn_6 (by decide) (fun c_85 => absurd c_85 (by decide)) (fun c_85 => ?_)
        refine lv_iload_n hx hb dX8_bytesIn_9 rfl (lv_at hl 2 rfl) ?_
        refine lv_iload_n hx hb dX8_bytesIn_10 rfl (lv_at hl 0 rfl) ?_
        obtain ⟨x_86, ex_86⟩ : ∃ z : Int32, z = (Int32.toUInt32 p0 >>> (Int32.toUInt32 0 &&& Int32.toUInt32 31)).toInt32 := ⟨_, rfl⟩
        refine lv_iushr (v := x_86) hx hb dX8_bytesIn_11 ex_86.symm ?_
        refine lv_sipush (v := 255) hx hb dX8_bytesIn_12 (by decide) ?_
        refine lv_iand hx hb dX8_bytesIn_15 ?_
        refine lv_topi (fun x_87 ex_87 => ?_)
        have hy_88 : kS p0 0 = x_87 := by rw [ex_87, ex_86]; exact (kSu0 p0).symm
        refine lv_if_eq (tgt := 22) hx hb dX8_bytesIn_16 (by decide) (fun c_89 => ?_) (fun c_89 => ?_)
        · refine lv_iinc (v := (-8)) (lv' := [(2, .int (-8)), (1, .int 3), (0, .int p0)]) hx hb dX8_bytesIn_22 hl (k := 0) rfl (by decide) (by decide) rfl (fun ls hl => ?_)
          refine lv_goto (tgt := 5) hx hb dX8_bytesIn_25 (by decide) ?_
          refine lv_iload_n hx hb dX8_bytesIn_5 rfl (lv_at hl 0 rfl) ?_
          refine lv_if_lt (tgt := 28) hx hb dX8_bytesIn_6 (by decide) (fun c_90 => ?_) (fun c_90 => absurd (by decide) c_90)
          refine lv_iload_n hx hb dX8_bytesIn_28 rfl (lv_at hl 1 rfl) ?_
          have hk : kCnt p0 = 3 := by simp [kCnt, kC1, hy_4, hy_52, hy_76, hy_88, c_5, c_53, c_77, c_89]
          exact W.iret (v := 3) hx hb hr (fun t ht hW => ⟨3, rfl, (by rw [hk]; rfl), ht⟩) (fun _ h => nomatch h) dX8_bytesIn_29
        · refine lv_iinc (v := 4) (lv' := [(1, .int 4), (2, .int 0), (0, .int p0)]) hx hb dX8_bytesIn_19 hl (k := 1) rfl (by decide) (by decide) rfl (fun ls hl => ?_)
          refine lv_iinc (v := (-8)) (lv' := [(2, .int (-8)), (1, .int 4), (0, .int p0)]) hx hb dX8_bytesIn_22 hl (k := 1) rfl (by decide) (by decide) rfl (fun ls hl => ?_)
          refine lv_goto (tgt := 5) hx hb dX8_bytesIn_25 (by decide) ?_
          refine lv_iload_n hx hb dX8_bytesIn_5 rfl (lv_at hl 0 rfl) ?_
          refine lv_if_lt (tgt := 28) hx hb dX8_bytesIn_6 (by decide) (fun c_91 => ?_) (fun c_91 => absurd (by decide) c_91)
          refine lv_iload_n hx hb dX8_bytesIn_28 rfl (lv_at hl 1 rfl) ?_
          have hk : kCnt p0 = 4 := by simp [kCnt, kC1, hy_4, hy_52, hy_76, hy_88, c_5, c_53, c_77, c_89]
          exact W.iret (v := 4) hx hb hr (fun t ht hW => ⟨4, rfl, (by rw [hk]; rfl), ht⟩) (fun _ h => nomatch h) dX8_bytesIn_29

theorem dX10_bytesIn_0 : decode cX10_bytesIn 0 = .ok (.iconst 0, 1) := by decide +kernel
theorem dX10_bytesIn_1 : decode cX10_bytesIn 1 = .ok (.istore_n 1, 1) := by decide +kernel
theorem dX10_bytesIn_2 : decode cX10_bytesIn 2 = .ok (.bipush 24, 2) := by decide +kernel
theorem dX10_bytesIn_4 : decode cX10_bytesIn 4 = .ok (.istore_n 2, 1) := by decide +kernel
theorem dX10_bytesIn_5 : decode cX10_bytesIn 5 = .ok (.iload_n 2, 1) := by decide +kernel
theorem dX10_bytesIn_6 : decode cX10_bytesIn 6 = .ok (.ifCond .lt 27, 3) := by decide +kernel
theorem dX10_bytesIn_9 : decode cX10_bytesIn 9 = .ok (.iload_n 1, 1) := by decide +kernel
theorem dX10_bytesIn_10 : decode cX10_bytesIn 10 = .ok (.iload_n 0, 1) := by decide +kernel
theorem dX10_bytesIn_11 : decode cX10_bytesIn 11 = .ok (.iload_n 2, 1) := by decide +kernel
theorem dX10_bytesIn_12 : decode cX10_bytesIn 12 = .ok (.ishr, 1) := by decide +kernel
theorem dX10_bytesIn_13 : decode cX10_bytesIn 13 = .ok (.sipush 255, 3) := by decide +kernel
theorem dX10_bytesIn_16 : decode cX10_bytesIn 16 = .ok (.iand, 1) := by decide +kernel
theorem dX10_bytesIn_17 : decode cX10_bytesIn 17 = .ok (.ifCond .eq 7, 3) := by decide +kernel
theorem dX10_bytesIn_24 : decode cX10_bytesIn 24 = .ok (.iconst 0, 1) := by decide +kernel
theorem dX10_bytesIn_25 : decode cX10_bytesIn 25 = .ok (.iadd, 1) := by decide +kernel
theorem dX10_bytesIn_26 : decode cX10_bytesIn 26 = .ok (.istore_n 1, 1) := by decide +kernel
theorem dX10_bytesIn_27 : decode cX10_bytesIn 27 = .ok (.iinc 2 (-8), 3) := by decide +kernel
theorem dX10_bytesIn_30 : decode cX10_bytesIn 30 = .ok (.goto (-25), 3) := by decide +kernel
theorem dX10_bytesIn_33 : decode cX10_bytesIn 33 = .ok (.iload_n 1, 1) := by decide +kernel
theorem dX10_bytesIn_34 : decode cX10_bytesIn 34 = .ok (.ireturn, 1) := by decide +kernel
theorem dX10_bytesIn_20 : decode cX10_bytesIn 20 = .ok (.iconst 1, 1) := by decide +kernel
theorem dX10_bytesIn_21 : decode cX10_bytesIn 21 = .ok (.goto 4, 3) := by decide +kernel
def w_c_bytes10 : List Cond := .code yX10_bytesIn cX10_bytesIn 3 (some .int) :: ([])
theorem gw_c_bytes10 : (w_c_bytes10).all goodWord = true := by decide +kernel
set_option maxHeartbeats 4000000 in
set_option maxRecDepth 100000 in
theorem c_bytes10 (l : Launch) (dC : Nat → ClassId) (dI : Nat → Nat → Nat) (p0 : Int32) : Met l yX10_bytesIn w_c_bytes10 ({ frames := 1, cells := 0, slots := 0, locals := 60 }) (kR dC dI [.int p0] [] [] kT) (vp_Si (fun r : Int32 => r = nI (kCnt p0))) 0 0 (fun _ => False) := by
  refine Met.ofW (cc := cX10_bytesIn) (maxL := 3) (ret := (some .int)) (by decide) rfl ?_
  intro p e s m args below meth c s₁ B hml hv
  obtain ⟨rfl, hP, hK, hX⟩ := hv
  have hx := B.exec
  have hb := B.bytes
  have hr := B.returns
  have hts := atoms_spec (ws := w_c_bytes10) B.pre
  have hown : s.vm.findClass RX10 = some m.cls := findClass_of_methodNamed B.named
  have hlocks := B.notSynchronized
  have hP : va_P (dC, dI) vwCl [] s.heap := hP
  have hl := lv_entry ([.int p0]) (n := 3) (Nat.le_of_ble_eq_true rfl)
  rw [lg_entry_eq]
  generalize (lg_sl ([.int p0]) ++ List.replicate (3 - (lg_sl ([.int p0])).length) Slot.unset).toArray = ls at hl ⊢
  have hl : lv_has ls 3 [(0, .int p0)] := hl
  refine lv_iconst (v := 0) hx hb dX10_bytesIn_0 (by decide) ?_
  refine lv_istore_n (lv' := [(1, .int 0), (0, .int p0)]) hx hb dX10_bytesIn_1 rfl hl (by decide) rfl (fun ls hl => ?_)
  refine lv_bipush (v := 24) hx hb dX10_bytesIn_2 (by decide) ?_
  refine lv_istore_n (lv' := [(2, .int 24), (1, .int 0), (0, .int p0)]) hx hb dX10_bytesIn_4 rfl hl (by decide) rfl (fun ls hl => ?_)
  refine lv_iload_n hx hb dX10_bytesIn_5 rfl (lv_at hl 0 rfl) ?_
  refine lv_if_lt (tgt := 33) hx hb dX10_bytesIn_6 (by decide) (fun c_1 => absurd c_1 (by decide)) (fun c_1 => ?_)
  refine lv_iload_n hx hb dX10_bytesIn_9 rfl (lv_at hl 1 rfl) ?_
  refine lv_iload_n hx hb dX10_bytesIn_10 rfl (lv_at hl 2 rfl) ?_
  refine lv_iload_n hx hb dX10_bytesIn_11 rfl (lv_at hl 0 rfl) ?_
  refine lv_ishr hx hb dX10_bytesIn_12 ?_
  refine lv_topi (fun x_2 ex_2 => ?_)
  refine lv_sipush (v := 255) hx hb dX10_bytesIn_13 (by decide) ?_
  refine lv_iand hx hb dX10_bytesIn_16 ?_
  refine lv_topi (fun x_3 ex_3 => ?_)
  have hy_4 : kS p0 24 = x_3 := by rw [ex_3, ex_2]; rfl
  refine lv_if_eq (tgt := 24) hx hb dX10_bytesIn_17 (by decide) (fun c_5 => ?_) (fun c_5 => ?_)
  · refine lv_iconst (v := 0) hx hb dX10_bytesIn_24 (by decide) ?_
    refine lv_iadd hx hb dX10_bytesIn_25 ?_
    refine lv_topi (fun y_6 ey_6 => ?_)
    obtain rfl : y_6 = 0 := ey_6.trans (by decide)
    refine lv_istore_n (lv' := [(1, .int 0), (2, .int 24), (0, .int p0)]) hx hb dX10_bytesIn_26 rfl hl (by decide) rfl (fun ls hl => ?_)
    refine lv_iinc (v := 16) (lv' := [(2, .int 16), (1, .int 0), (0, .int p0)]) hx hb dX10_bytesIn_27 hl (k := 1) rfl (by decide) (by decide) rfl (fun ls hl => ?_)
    refine lv_goto (tgt := 5) hx hb dX10_bytesIn_30 (by decide) ?_
    refine lv_iload_n hx hb dX10_bytesIn_5 rfl (lv_at hl 0 rfl) ?_
    refine lv_if_lt (tgt := 33) hx hb dX10_bytesIn_6 (by decide) (fun c_7 => absurd c_7 (by decide)) (fun c_7 => ?_)
    refine lv_iload_n hx hb dX10_bytesIn_9 rfl (lv_at hl 1 rfl) ?_
    refine lv_iload_n hx hb dX10_bytesIn_10 rfl (lv_at hl 2 rfl) ?_
    refine lv_iload_n hx hb dX10_bytesIn_11 rfl (lv_at hl 0 rfl) ?_
    refine lv_ishr hx hb dX10_bytesIn_12 ?_
    refine lv_topi (fun x_8 ex_8 => ?_)
    refine lv_sipush (v := 255) hx hb dX10_bytesIn_13 (by decide) ?_
    refine lv_iand hx hb dX10_bytesIn_16 ?_
    refine lv_topi (fun x_9 ex_9 => ?_)
    have hy_10 : kS p0 16 = x_9 := by rw [ex_9, ex_8]; rfl
    refine lv_if_eq (tgt := 24) hx hb dX10_bytesIn_17 (by decide) (fun c_11 => ?_) (fun c_11 => ?_)
    · refine lv_iconst (v := 0) hx hb dX10_bytesIn_24 (by decide) ?_
      refine lv_iadd hx hb dX10_bytesIn_25 ?_
      refine lv_topi (fun y_12 ey_12 => ?_)
      obtain rfl : y_12 = 0 := ey_12.trans (by decide)
      refine lv_istore_n (lv' := [(1, .int 0), (2, .int 16), (0, .int p0)]) hx hb dX10_bytesIn_26 rfl hl (by decide) rfl (fun ls hl => ?_)
      refine lv_iinc (v := 8) (lv' := [(2, .int 8), (1, .int 0), (0, .int p0)]) hx hb dX10_bytesIn_27 hl (k := 1) rfl (by decide) (by decide) rfl (fun ls hl => ?_)
      refine lv_goto (tgt := 5) hx hb dX10_bytesIn_30 (by decide) ?_
      refine lv_iload_n hx hb dX10_bytesIn_5 rfl (lv_at hl 0 rfl) ?_
      refine lv_if_lt (tgt := 33) hx hb dX10_bytesIn_6 (by decide) (fun c_13 => absurd c_13 (by decide)) (fun c_13 => ?_)
      refine lv_iload_n hx hb dX10_bytesIn_9 rfl (lv_at hl 1 rfl) ?_
      refine lv_iload_n hx hb dX10_bytesIn_10 rfl (lv_at hl 2 rfl) ?_
      refine lv_iload_n hx hb dX10_bytesIn_11 rfl (lv_at hl 0 rfl) ?_
      refine lv_ishr hx hb dX10_bytesIn_12 ?_
      refine lv_topi (fun x_14 ex_14 => ?_)
      refine lv_sipush (v := 255) hx hb dX10_bytesIn_13 (by decide) ?_
      refine lv_iand hx hb dX10_bytesIn_16 ?_
      refine lv_topi (fun x_15 ex_15 => ?_)
      have hy_16 : kS p0 8 = x_15 := by rw [ex_15, ex_14]; rfl
      refine lv_if_eq (tgt := 24) hx hb dX10_bytesIn_17 (by decide) (fun c_17 => ?_) (fun c_17 => ?_)
      · refine lv_iconst (v := 0) hx hb dX10_bytesIn_24 (by decide) ?_
        refine lv_iadd hx hb dX10_bytesIn_25 ?_
        refine lv_topi (fun y_18 ey_18 => ?_)
        obtain rfl : y_18 = 0 := ey_18.trans (by decide)
        refine lv_istore_n (lv' := [(1, .int 0), (2, .int 8), (0, .int p0)]) hx hb dX10_bytesIn_26 rfl hl (by decide) rfl (fun ls hl => ?_)
        refine lv_iinc (v := 0) (lv' := [(2, .int 0), (1, .int 0), (0, .int p0)]) hx hb dX10_bytesIn_27 hl (k := 1) rfl (by decide) (by decide) rfl (fun ls hl => ?_)
        refine lv_goto (tgt := 5) hx hb dX10_bytesIn_30 (by decide) ?_
        refine lv_iload_n hx hb dX10_bytesIn_5 rfl (lv_at hl 0 rfl) ?_
        refine lv_if_lt (tgt := 33) hx hb dX10_bytesIn_6 (by decide) (fun c_19 => absurd c_19 (by decide)) (fun c_19 => ?_)
        refine lv_iload_n hx hb dX10_bytesIn_9 rfl (lv_at hl 1 rfl) ?_
        refine lv_iload_n hx hb dX10_bytesIn_10 rfl (lv_at hl 2 rfl) ?_
        refine lv_iload_n hx hb dX10_bytesIn_11 rfl (lv_at hl 0 rfl) ?_
        refine lv_ishr hx hb dX10_bytesIn_12 ?_
        refine lv_topi (fun x_20 ex_20 => ?_)
        refine lv_sipush (v := 255) hx hb dX10_bytesIn_13 (by decide) ?_
        refine lv_iand hx hb dX10_bytesIn_16 ?_
        refine lv_topi (fun x_21 ex_21 => ?_)
        have hy_22 : kS p0 0 = x_21 := by rw [ex_21, ex_20]; rfl
        refine lv_if_eq (tgt := 24) hx hb dX10_bytesIn_17 (by decide) (fun c_23 => ?_) (fun c_23 => ?_)
        · refine lv_iconst (v := 0) hx hb dX10_bytesIn_24 (by decide) ?_
          refine lv_iadd hx hb dX10_bytesIn_25 ?_
          refine lv_topi (fun y_24 ey_24 => ?_)
          obtain rfl : y_24 = 0 := ey_24.trans (by decide)
          refine lv_istore_n (lv' := [(1, .int 0), (2, .int 0), (0, .int p0)]) hx hb dX10_bytesIn_26 rfl hl (by decide) rfl (fun ls hl => ?_)
          refine lv_iinc (v := (-8)) (lv' := [(2, .int (-8)), (1, .int 0), (0, .int p0)]) hx hb dX10_bytesIn_27 hl (k := 1) rfl (by decide) (by decide) rfl (fun ls hl => ?_)
          refine lv_goto (tgt := 5) hx hb dX10_bytesIn_30 (by decide) ?_
          refine lv_iload_n hx hb dX10_bytesIn_5 rfl (lv_at hl 0 rfl) ?_
          refine lv_if_lt (tgt := 33) hx hb dX10_bytesIn_6 (by decide) (fun c_25 => ?_) (fun c_25 => absurd (by decide) c_25)
          refine lv_iload_n hx hb dX10_bytesIn_33 rfl (lv_at hl 1 rfl) ?_
          have hk : kCnt p0 = 0 := by simp [kCnt, kC1, hy_4, hy_10, hy_16, hy_22, c_5, c_11, c_17, c_23]
          exact W.iret (v := 0) hx hb hr (fun t ht hW => ⟨0, rfl, (by rw [hk]; rfl), ht⟩) (fun _ h => nomatch h) dX10_bytesIn_34
        · refine lv_iconst (v := 1) hx hb dX10_bytesIn_20 (by decide) ?_
          refine lv_goto (tgt := 25) hx hb dX10_bytesIn_21 (by decide) ?_
          refine lv_iadd hx hb dX10_bytesIn_25 ?_
          refine lv_topi (fun y_26 ey_26 => ?_)
          obtain rfl : y_26 = 1 := ey_26.trans (by decide)
          refine lv_istore_n (lv' := [(1, .int 1), (2, .int 0), (0, .int p0)]) hx hb dX10_bytesIn_26 rfl hl (by decide) rfl (fun ls hl => ?_)
          refine lv_iinc (v := (-8)) (lv' := [(2, .int (-8)), (1, .int 1), (0, .int p0)]) hx hb dX10_bytesIn_27 hl (k := 1) rfl (by decide) (by decide) rfl (fun ls hl => ?_)
          refine lv_goto (tgt := 5) hx hb dX10_bytesIn_30 (by decide) ?_
          refine lv_iload_n hx hb dX10_bytesIn_5 rfl (lv_at hl 0 rfl) ?_
          refine lv_if_lt (tgt := 33) hx hb dX10_bytesIn_6 (by decide) (fun c_27 => ?_) (fun c_27 => absurd (by decide) c_27)
          refine lv_iload_n hx hb dX10_bytesIn_33 rfl (lv_at hl 1 rfl) ?_
          have hk : kCnt p0 = 1 := by simp [kCnt, kC1, hy_4, hy_10, hy_16, hy_22, c_5, c_11, c_17, c_23]
          exact W.iret (v := 1) hx hb hr (fun t ht hW => ⟨1, rfl, (by rw [hk]; rfl), ht⟩) (fun _ h => nomatch h) dX10_bytesIn_34
      · refine lv_iconst (v := 1) hx hb dX10_bytesIn_20 (by decide) ?_
        refine lv_goto (tgt := 25) hx hb dX10_bytesIn_21 (by decide) ?_
        refine lv_iadd hx hb dX10_bytesIn_25 ?_
        refine lv_topi (fun y_28 ey_28 => ?_)
        obtain rfl : y_28 = 1 := ey_28.trans (by decide)
        refine lv_istore_n (lv' := [(1, .int 1), (2, .int 8), (0, .int p0)]) hx hb dX10_bytesIn_26 rfl hl (by decide) rfl (fun ls hl => ?_)
        refine lv_iinc (v := 0) (lv' := [(2, .int 0), (1, .int 1), (0, .int p0)]) hx hb dX10_bytesIn_27 hl (k := 1) rfl (by decide) (by decide) rfl (fun ls hl => ?_)
        refine lv_goto (tgt := 5) hx hb dX10_bytesIn_30 (by decide) ?_
        refine lv_iload_n hx hb dX10_bytesIn_5 rfl (lv_at hl 0 rfl) ?_
        refine lv_if_lt (tgt := 33) hx hb dX10_bytesIn_6 (by decide) (fun c_29 => absurd c_29 (by decide)) (fun c_29 => ?_)
        refine lv_iload_n hx hb dX10_bytesIn_9 rfl (lv_at hl 1 rfl) ?_
        refine lv_iload_n hx hb dX10_bytesIn_10 rfl (lv_at hl 2 rfl) ?_
        refine lv_iload_n hx hb dX10_bytesIn_11 rfl (lv_at hl 0 rfl) ?_
        refine lv_ishr hx hb dX10_bytesIn_12 ?_
        refine lv_topi (fun x_30 ex_30 => ?_)
        refine lv_sipush (v := 255) hx hb dX10_bytesIn_13 (by decide) ?_
        refine lv_iand hx hb dX10_bytesIn_16 ?_
        refine lv_topi (fun x_31 ex_31 => ?_)
        have hy_32 : kS p0 0 = x_31 := by rw [ex_31, ex_30]; rfl
        refine lv_if_eq (tgt := 24) hx hb dX10_bytesIn_17 (by decide) (fun c_33 => ?_) (fun c_33 => ?_)
        · refine lv_iconst (v := 0) hx hb dX10_bytesIn_24 (by decide) ?_
          refine lv_iadd hx hb dX10_bytesIn_25 ?_
          refine lv_topi (fun y_34 ey_34 => ?_)
          obtain rfl : y_34 = 1 := ey_34.trans (by decide)
          refine lv_istore_n (lv' := [(1, .int 1), (2, .int 0), (0, .int p0)]) hx hb dX10_bytesIn_26 rfl hl (by decide) rfl (fun ls hl => ?_)
          refine lv_iinc (v := (-8)) (lv' := [(2, .int (-8)), (1, .int 1), (0, .int p0)]) hx hb dX10_bytesIn_27 hl (k := 1) rfl (by decide) (by decide) rfl (fun ls hl => ?_)
          refine lv_goto (tgt := 5) hx hb dX10_bytesIn_30 (by decide) ?_
          refine lv_iload_n hx hb dX10_bytesIn_5 rfl (lv_at hl 0 rfl) ?_
          refine lv_if_lt (tgt := 33) hx hb dX10_bytesIn_6 (by decide) (fun c_35 => ?_) (fun c_35 => absurd (by decide) c_35)
          refine lv_iload_n hx hb dX10_bytesIn_33 rfl (lv_at hl 1 rfl) ?_
          have hk : kCnt p0 = 1 := by simp [kCnt, kC1, hy_4, hy_10, hy_16, hy_32, c_5, c_11, c_17, c_33]
          exact W.iret (v := 1) hx hb hr (fun t ht hW => ⟨1, rfl, (by rw [hk]; rfl), ht⟩) (fun _ h => nomatch h) dX10_bytesIn_34
        · refine lv_iconst (v := 1) hx hb dX10_bytesIn_20 (by decide) ?_
          refine lv_goto (tgt := 25) hx hb dX10_bytesIn_21 (by decide) ?_
          refine lv_iadd hx hb dX10_bytesIn_25 ?_
          refine lv_topi (fun y_36 ey_36 => ?_)
          obtain rfl : y_36 = 2 := ey_36.trans (by decide)
          refine lv_istore_n (lv' := [(1, .int 2), (2, .int 0), (0, .int p0)]) hx hb dX10_bytesIn_26 rfl hl (by decide) rfl (fun ls hl => ?_)
          refine lv_iinc (v := (-8)) (lv' := [(2, .int (-8)), (1, .int 2), (0, .int p0)]) hx hb dX10_bytesIn_27 hl (k := 1) rfl (by decide) (by decide) rfl (fun ls hl => ?_)
          refine lv_goto (tgt := 5) hx hb dX10_bytesIn_30 (by decide) ?_
          refine lv_iload_n hx hb dX10_bytesIn_5 rfl (lv_at hl 0 rfl) ?_
          refine lv_if_lt (tgt := 33) hx hb dX10_bytesIn_6 (by decide) (fun c_37 => ?_) (fun c_37 => absurd (by decide) c_37)
          refine lv_iload_n hx hb dX10_bytesIn_33 rfl (lv_at hl 1 rfl) ?_
          have hk : kCnt p0 = 2 := by simp [kCnt, kC1, hy_4, hy_10, hy_16, hy_32, c_5, c_11, c_17, c_33]
          exact W.iret (v := 2) hx hb hr (fun t ht hW => ⟨2, rfl, (by rw [hk]; rfl), ht⟩) (fun _ h => nomatch h) dX10_bytesIn_34
    · refine lv_iconst (v := 1) hx hb dX10_bytesIn_20 (by decide) ?_
      refine lv_goto (tgt := 25) hx hb dX10_bytesIn_21 (by decide) ?_
      refine lv_iadd hx hb dX10_bytesIn_25 ?_
      refine lv_topi (fun y_38 ey_38 => ?_)
      obtain rfl : y_38 = 1 := ey_38.trans (by decide)
      refine lv_istore_n (lv' := [(1, .int 1), (2, .int 16), (0, .int p0)]) hx hb dX10_bytesIn_26 rfl hl (by decide) rfl (fun ls hl => ?_)
      refine lv_iinc (v := 8) (lv' := [(2, .int 8), (1, .int 1), (0, .int p0)]) hx hb dX10_bytesIn_27 hl (k := 1) rfl (by decide) (by decide) rfl (fun ls hl => ?_)
      refine lv_goto (tgt := 5) hx hb dX10_bytesIn_30 (by decide) ?_
      refine lv_iload_n hx hb dX10_bytesIn_5 rfl (lv_at hl 0 rfl) ?_
      refine lv_if_lt (tgt := 33) hx hb dX10_bytesIn_6 (by decide) (fun c_39 => absurd c_39 (by decide)) (fun c_39 => ?_)
      refine lv_iload_n hx hb dX10_bytesIn_9 rfl (lv_at hl 1 rfl) ?_
      refine lv_iload_n hx hb dX10_bytesIn_10 rfl (lv_at hl 2 rfl) ?_
      refine lv_iload_n hx hb dX10_bytesIn_11 rfl (lv_at hl 0 rfl) ?_
      refine lv_ishr hx hb dX10_bytesIn_12 ?_
      refine lv_topi (fun x_40 ex_40 => ?_)
      refine lv_sipush (v := 255) hx hb dX10_bytesIn_13 (by decide) ?_
      refine lv_iand hx hb dX10_bytesIn_16 ?_
      refine lv_topi (fun x_41 ex_41 => ?_)
      have hy_42 : kS p0 8 = x_41 := by rw [ex_41, ex_40]; rfl
      refine lv_if_eq (tgt := 24) hx hb dX10_bytesIn_17 (by decide) (fun c_43 => ?_) (fun c_43 => ?_)
      · refine lv_iconst (v := 0) hx hb dX10_bytesIn_24 (by decide) ?_
        refine lv_iadd hx hb dX10_bytesIn_25 ?_
        refine lv_topi (fun y_44 ey_44 => ?_)
        obtain rfl : y_44 = 1 := ey_44.trans (by decide)
        refine lv_istore_n (lv' := [(1, .int 1), (2, .int 8), (0, .int p0)]) hx hb dX10_bytesIn_26 rfl hl (by decide) rfl (fun ls hl => ?_)
        refine lv_iinc (v := 0) (lv' := [(2, .int 0), (1, .int 1), (0, .int p0)]) hx hb dX10_bytesIn_27 hl (k := 1) rfl (by decide) (by decide) rfl (fun ls hl => ?_)
        refine lv_goto (tgt := 5) hx hb dX10_bytesIn_30 (by decide) ?_
        refine lv_iload_n hx hb dX10_bytesIn_5 rfl (lv_at hl 0 rfl) ?_
        refine lv_if_lt (tgt := 33) hx hb dX10_bytesIn_6 (by decide) (fun c_45 => absurd c_45 (by decide)) (fun c_45 => ?_)
        refine lv_iload_n hx hb dX10_bytesIn_9 rfl (lv_at hl 1 rfl) ?_
        refine lv_iload_n hx hb dX10_bytesIn_10 rfl (lv_at hl 2 rfl) ?_
        refine lv_iload_n hx hb dX10_bytesIn_11 rfl (lv_at hl 0 rfl) ?_
        refine lv_ishr hx hb dX10_bytesIn_12 ?_
        refine lv_topi (fun x_46 ex_46 => ?_)
        refine lv_sipush (v := 255) hx hb dX10_bytesIn_13 (by decide) ?_
        refine lv_iand hx hb dX10_bytesIn_16 ?_
        refine lv_topi (fun x_47 ex_47 => ?_)
        have hy_48 : kS p0 0 = x_47 := by rw [ex_47, ex_46]; rfl
        refine lv_if_eq (tgt := 24) hx hb dX10_bytesIn_17 (by decide) (fun c_49 => ?_) (fun c_49 => ?_)
        · refine lv_iconst (v := 0) hx hb dX10_bytesIn_24 (by decide) ?_
          refine lv_iadd hx hb dX10_bytesIn_25 ?_
          refine lv_topi (fun y_50 ey_50 => ?_)
          obtain rfl : y_50 = 1 := ey_50.trans (by decide)
          refine lv_istore_n (lv' := [(1, .int 1), (2, .int 0), (0, .int p0)]) hx hb dX10_bytesIn_26 rfl hl (by decide) rfl (fun ls hl => ?_)
          refine lv_iinc (v := (-8)) (lv' := [(2, .int (-8)), (1, .int 1), (0, .int p0)]) hx hb dX10_bytesIn_27 hl (k := 1) rfl (by decide) (by decide) rfl (fun ls hl => ?_)
          refine lv_goto (tgt := 5) hx hb dX10_bytesIn_30 (by decide) ?_
          refine lv_iload_n hx hb dX10_bytesIn_5 rfl (lv_at hl 0 rfl) ?_
          refine lv_if_lt (tgt := 33) hx hb dX10_bytesIn_6 (by decide) (fun c_51 => ?_) (fun c_51 => absurd (by decide) c_51)
          refine lv_iload_n hx hb dX10_bytesIn_33 rfl (lv_at hl 1 rfl) ?_
          have hk : kCnt p0 = 1 := by simp [kCnt, kC1, hy_4, hy_10, hy_42, hy_48, c_5, c_11, c_43, c_49]
          exact W.iret (v := 1) hx hb hr (fun t ht hW => ⟨1, rfl, (by rw [hk]; rfl), ht⟩) (fun _ h => nomatch h) dX10_bytesIn_34
        · refine lv_iconst (v := 1) hx hb dX10_bytesIn_20 (by decide) ?_
          refine lv_goto (tgt := 25) hx hb dX10_bytesIn_21 (by decide) ?_
          refine lv_iadd hx hb dX10_bytesIn_25 ?_
          refine lv_topi (fun y_52 ey_52 => ?_)
          obtain rfl : y_52 = 2 := ey_52.trans (by decide)
          refine lv_istore_n (lv' := [(1, .int 2), (2, .int 0), (0, .int p0)]) hx hb dX10_bytesIn_26 rfl hl (by decide) rfl (fun ls hl => ?_)
          refine lv_iinc (v := (-8)) (lv' := [(2, .int (-8)), (1, .int 2), (0, .int p0)]) hx hb dX10_bytesIn_27 hl (k := 1) rfl (by decide) (by decide) rfl (fun ls hl => ?_)
          refine lv_goto (tgt := 5) hx hb dX10_bytesIn_30 (by decide) ?_
          refine lv_iload_n hx hb dX10_bytesIn_5 rfl (lv_at hl 0 rfl) ?_
          refine lv_if_lt (tgt := 33) hx hb dX10_bytesIn_6 (by decide) (fun c_53 => ?_) (fun c_53 => absurd (by decide) c_53)
          refine lv_iload_n hx hb dX10_bytesIn_33 rfl (lv_at hl 1 rfl) ?_
          have hk : kCnt p0 = 2 := by simp [kCnt, kC1, hy_4, hy_10, hy_42, hy_48, c_5, c_11, c_43, c_49]
          exact W.iret (v := 2) hx hb hr (fun t ht hW => ⟨2, rfl, (by rw [hk]; rfl), ht⟩) (fun _ h => nomatch h) dX10_bytesIn_34
      · refine lv_iconst (v := 1) hx hb dX10_bytesIn_20 (by decide) ?_
        refine lv_goto (tgt := 25) hx hb dX10_bytesIn_21 (by decide) ?_
        refine lv_iadd hx hb dX10_bytesIn_25 ?_
        refine lv_topi (fun y_54 ey_54 => ?_)
        obtain rfl : y_54 = 2 := ey_54.trans (by decide)
        refine lv_istore_n (lv' := [(1, .int 2), (2, .int 8), (0, .int p0)]) hx hb dX10_bytesIn_26 rfl hl (by decide) rfl (fun ls hl => ?_)
        refine lv_iinc (v := 0) (lv' := [(2, .int 0), (1, .int 2), (0, .int p0)]) hx hb dX10_bytesIn_27 hl (k := 1) rfl (by decide) (by decide) rfl (fun ls hl => ?_)
        refine lv_goto (tgt := 5) hx hb dX10_bytesIn_30 (by decide) ?_
        refine lv_iload_n hx hb dX10_bytesIn_5 rfl (lv_at hl 0 rfl) ?_
        refine lv_if_lt (tgt := 33) hx hb dX10_bytesIn_6 (by decide) (fun c_55 => absurd c_55 (by decide)) (fun c_55 => ?_)
        refine lv_iload_n hx hb dX10_bytesIn_9 rfl (lv_at hl 1 rfl) ?_
        refine lv_iload_n hx hb dX10_bytesIn_10 rfl (lv_at hl 2 rfl) ?_
        refine lv_iload_n hx hb dX10_bytesIn_11 rfl (lv_at hl 0 rfl) ?_
        refine lv_ishr hx hb dX10_bytesIn_12 ?_
        refine lv_topi (fun x_56 ex_56 => ?_)
        refine lv_sipush (v := 255) hx hb dX10_bytesIn_13 (by decide) ?_
        refine lv_iand hx hb dX10_bytesIn_16 ?_
        refine lv_topi (fun x_57 ex_57 => ?_)
        have hy_58 : kS p0 0 = x_57 := by rw [ex_57, ex_56]; rfl
        refine lv_if_eq (tgt := 24) hx hb dX10_bytesIn_17 (by decide) (fun c_59 => ?_) (fun c_59 => ?_)
        · refine lv_iconst (v := 0) hx hb dX10_bytesIn_24 (by decide) ?_
          refine lv_iadd hx hb dX10_bytesIn_25 ?_
          refine lv_topi (fun y_60 ey_60 => ?_)
          obtain rfl : y_60 = 2 := ey_60.trans (by decide)
          refine lv_istore_n (lv' := [(1, .int 2), (2, .int 0), (0, .int p0)]) hx hb dX10_bytesIn_26 rfl hl (by decide) rfl (fun ls hl => ?_)
          refine lv_iinc (v := (-8)) (lv' := [(2, .int (-8)), (1, .int 2), (0, .int p0)]) hx hb dX10_bytesIn_27 hl (k := 1) rfl (by decide) (by decide) rfl (fun ls hl => ?_)
          refine lv_goto (tgt := 5) hx hb dX10_bytesIn_30 (by decide) ?_
          refine lv_iload_n hx hb dX10_bytesIn_5 rfl (lv_at hl 0 rfl) ?_
          refine lv_if_lt (tgt := 33) hx hb dX10_bytesIn_6 (by decide) (fun c_61 => ?_) (fun c_61 => absurd (by decide) c_61)
          refine lv_iload_n hx hb dX10_bytesIn_33 rfl (lv_at hl 1 rfl) ?_
          have hk : kCnt p0 = 2 := by simp [kCnt, kC1, hy_4, hy_10, hy_42, hy_58, c_5, c_11, c_43, c_59]
          exact W.iret (v := 2) hx hb hr (fun t ht hW => ⟨2, rfl, (by rw [hk]; rfl), ht⟩) (fun _ h => nomatch h) dX10_bytesIn_34
        · refine lv_iconst (v := 1) hx hb dX10_bytesIn_20 (by decide) ?_
          refine lv_goto (tgt := 25) hx hb dX10_bytesIn_21 (by decide) ?_
          refine lv_iadd hx hb dX10_bytesIn_25 ?_
          refine lv_topi (fun y_62 ey_62 => ?_)
          obtain rfl : y_62 = 3 := ey_62.trans (by decide)
          refine lv_istore_n (lv' := [(1, .int 3), (2, .int 0), (0, .int p0)]) hx hb dX10_bytesIn_26 rfl hl (by decide) rfl (fun ls hl => ?_)
          refine lv_iinc (v := (-8)) (lv' := [(2, .int (-8)), (1, .int 3), (0, .int p0)]) hx hb dX10_bytesIn_27 hl (k := 1) rfl (by decide) (by decide) rfl (fun ls hl => ?_)
          refine lv_goto (tgt := 5) hx hb dX10_bytesIn_30 (by decide) ?_
          refine lv_iload_n hx hb dX10_bytesIn_5 rfl (lv_at hl 0 rfl) ?_
          refine lv_if_lt (tgt := 33) hx hb dX10_bytesIn_6 (by decide) (fun c_63 => ?_) (fun c_63 => absurd (by decide) c_63)
          refine lv_iload_n hx hb dX10_bytesIn_33 rfl (lv_at hl 1 rfl) ?_
          have hk : kCnt p0 = 3 := by simp [kCnt, kC1, hy_4, hy_10, hy_42, hy_58, c_5, c_11, c_43, c_59]
          exact W.iret (v := 3) hx hb hr (fun t ht hW => ⟨3, rfl, (by rw [hk]; rfl), ht⟩) (fun _ h => nomatch h) dX10_bytesIn_34
  · refine lv_iconst (v := 1) hx hb dX10_bytesIn_20 (by decide) ?_
    refine lv_goto (tgt := 25) hx hb dX10_bytesIn_21 (by decide) ?_
    refine lv_iadd hx hb dX10_bytesIn_25 ?_
    refine lv_topi (fun y_64 ey_64 => ?_)
    obtain rfl : y_64 = 1 := ey_64.trans (by decide)
    refine lv_istore_n (lv' := [(1, .int 1), (2, .int 24), (0, .int p0)]) hx hb dX10_bytesIn_26 rfl hl (by decide) rfl (fun ls hl => ?_)
    refine lv_iinc (v := 16) (lv' := [(2, .int 16), (1, .int 1), (0, .int p0)]) hx hb dX10_bytesIn_27 hl (k := 1) rfl (by decide) (by decide) rfl (fun ls hl => ?_)
    refine lv_goto (tgt := 5) hx hb dX10_bytesIn_30 (by decide) ?_
    refine lv_iload_n hx hb dX10_bytesIn_5 rfl (lv_at hl 0 rfl) ?_
    refine lv_if_lt (tgt := 33) hx hb dX10_bytesIn_6 (by decide) (fun c_65 => absurd c_65 (by decide)) (fun c_65 => ?_)
    refine lv_iload_n hx hb dX10_bytesIn_9 rfl (lv_at hl 1 rfl) ?_
    refine lv_iload_n hx hb dX10_bytesIn_10 rfl (lv_at hl 2 rfl) ?_
    refine lv_iload_n hx hb dX10_bytesIn_11 rfl (lv_at hl 0 rfl) ?_
    refine lv_ishr hx hb dX10_bytesIn_12 ?_
    refine lv_topi (fun x_66 ex_66 => ?_)
    refine lv_sipush (v := 255) hx hb dX10_bytesIn_13 (by decide) ?_
    refine lv_iand hx hb dX10_bytesIn_16 ?_
    refine lv_topi (fun x_67 ex_67 => ?_)
    have hy_68 : kS p0 16 = x_67 := by rw [ex_67, ex_66]; rfl
    refine lv_if_eq (tgt := 24) hx hb dX10_bytesIn_17 (by decide) (fun c_69 => ?_) (fun c_69 => ?_)
    · refine lv_iconst (v := 0) hx hb dX10_bytesIn_24 (by decide) ?_
      refine lv_iadd hx hb dX10_bytesIn_25 ?_
      refine lv_topi (fun y_70 ey_70 => ?_)
      obtain rfl : y_70 = 1 := ey_70.trans (by decide)
      refine lv_istore_n (lv' := [(1, .int 1), (2, .int 16), (0, .int p0)]) hx hb dX10_bytesIn_26 rfl hl (by decide) rfl (fun ls hl => ?_)
      refine lv_iinc (v := 8) (lv' := [(2, .int 8), (1, .int 1), (0, .int p0)]) hx hb dX10_bytesIn_27 hl (k := 1) rfl (by decide) (by decide) rfl (fun ls hl => ?_)
      refine lv_goto (tgt := 5) hx hb dX10_bytesIn_30 (by decide) ?_
      refine lv_iload_n hx hb dX10_bytesIn_5 rfl (lv_at hl 0 rfl) ?_
      refine lv_if_lt (tgt := 33) hx hb dX10_bytesIn_6 (by decide) (fun c_71 => absurd c_71 (by decide)) (fun c_71 => ?_)
      refine lv_iload_n hx hb dX10_bytesIn_9 rfl (lv_at hl 1 rfl) ?_
      refine lv_iload_n hx hb dX10_bytesIn_10 rfl (lv_at hl 2 rfl) ?_
      refine lv_iload_n hx hb dX10_bytesIn_11 rfl (lv_at hl 0 rfl) ?_
      refine lv_ishr hx hb dX10_bytesIn_12 ?_
      refine lv_topi (fun x_72 ex_72 => ?_)
      refine lv_sipush (v := 255) hx hb dX10_bytesIn_13 (by decide) ?_
      refine lv_iand hx hb dX10_bytesIn_16 ?_
      refine lv_topi (fun x_73 ex_73 => ?_)
      have hy_74 : kS p0 8 = x_73 := by rw [ex_73, ex_72]; rfl
      refine lv_if_eq (tgt := 24) hx hb dX10_bytesIn_17 (by decide) (fun c_75 => ?_) (fun c_75 => ?_)
      · refine lv_iconst (v := 0) hx hb dX10_bytesIn_24 (by decide) ?_
        refine lv_iadd hx hb dX10_bytesIn_25 ?_
        refine lv_topi (fun y_76 ey_76 => ?_)
        obtain rfl : y_76 = 1 := ey_76.trans (by decide)
        refine lv_istore_n (lv' := [(1, .int 1), (2, .int 8), (0, .int p0)]) hx hb dX10_bytesIn_26 rfl hl (by decide) rfl (fun ls hl => ?_)
        refine lv_iinc (v := 0) (lv' := [(2, .int 0), (1, .int 1), (0, .int p0)]) hx hb dX10_bytesIn_27 hl (k := 1) rfl (by decide) (by decide) rfl (fun ls hl => ?_)
        refine lv_goto (tgt := 5) hx hb dX10_bytesIn_30 (by decide) ?_
        refine lv_iload_n hx hb dX10_bytesIn_5 rfl (lv_at hl 0 rfl) ?_
        refine lv_if_lt (tgt := 33) hx hb dX10_bytesIn_6 (by decide) (fun c_77 => absurd c_77 (by decide)) (fun c_77 => ?_)
        refine lv_iload_n hx hb dX10_bytesIn_9 rfl (lv_at hl 1 rfl) ?_
        refine lv_iload_n hx hb dX10_bytesIn_10 rfl (lv_at hl 2 rfl) ?_
        refine lv_iload_n hx hb dX10_bytesIn_11 rfl (lv_at hl 0 rfl) ?_
        refine lv_ishr hx hb dX10_bytesIn_12 ?_
        refine lv_topi (fun x_78 ex_78 => ?_)
        refine lv_sipush (v := 255) hx hb dX10_bytesIn_13 (by decide) ?_
        refine lv_iand hx hb dX10_bytesIn_16 ?_
        refine lv_topi (fun x_79 ex_79 => ?_)
        have hy_80 : kS p0 0 = x_79 := by rw [ex_79, ex_78]; rfl
        refine lv_if_eq (tgt := 24) hx hb dX10_bytesIn_17 (by decide) (fun c_81 => ?_) (fun c_81 => ?_)
        · refine lv_iconst (v := 0) hx hb dX10_bytesIn_24 (by decide) ?_
          refine lv_iadd hx hb dX10_bytesIn_25 ?_
          refine lv_topi (fun y_82 ey_82 => ?_)
          obtain rfl : y_82 = 1 := ey_82.trans (by decide)
          refine lv_istore_n (lv' := [(1, .int 1), (2, .int 0), (0, .int p0)]) hx hb dX10_bytesIn_26 rfl hl (by decide) rfl (fun ls hl => ?_)
          refine lv_iinc (v := (-8)) (lv' := [(2, .int (-8)), (1, .int 1), (0, .int p0)]) hx hb dX10_bytesIn_27 hl (k := 1) rfl (by decide) (by decide) rfl (fun ls hl => ?_)
          refine lv_goto (tgt := 5) hx hb dX10_bytesIn_30 (by decide) ?_
          refine lv_iload_n hx hb dX10_bytesIn_5 rfl (lv_at hl 0 rfl) ?_
          refine lv_if_lt (tgt := 33) hx hb dX10_bytesIn_6 (by decide) (fun c_83 => ?_) (fun c_83 => absurd (by decide) c_83)
          refine lv_iload_n hx hb dX10_bytesIn_33 rfl (lv_at hl 1 rfl) ?_
          have hk : kCnt p0 = 1 := by simp [kCnt, kC1, hy_4, hy_68, hy_74, hy_80, c_5, c_69, c_75, c_81]
          exact W.iret (v := 1) hx hb hr (fun t ht hW => ⟨1, rfl, (by rw [hk]; rfl), ht⟩) (fun _ h => nomatch h) dX10_bytesIn_34
        · refine lv_iconst (v := 1) hx hb dX10_bytesIn_20 (by decide) ?_
          refine lv_goto (tgt := 25) hx hb dX10_bytesIn_21 (by decide) ?_
          refine lv_iadd hx hb dX10_bytesIn_25 ?_
          refine lv_topi (fun y_84 ey_84 => ?_)
          obtain rfl : y_84 = 2 := ey_84.trans (by decide)
          refine lv_istore_n (lv' := [(1, .int 2), (2, .int 0), (0, .int p0)]) hx hb dX10_bytesIn_26 rfl hl (by decide) rfl (fun ls hl => ?_)
          refine lv_iinc (v := (-8)) (lv' := [(2, .int (-8)), (1, .int 2), (0, .int p0)]) hx hb dX10_bytesIn_27 hl (k := 1) rfl (by decide) (by decide) rfl (fun ls hl => ?_)
          refine lv_goto (tgt := 5) hx hb dX10_bytesIn_30 (by decide) ?_
          refine lv_iload_n hx hb dX10_bytesIn_5 rfl (lv_at hl 0 rfl) ?_
          refine lv_if_lt (tgt := 33) hx hb dX10_bytesIn_6 (by decide) (fun c_85 => ?_) (fun c_85 => absurd (by decide) c_85)
          refine lv_iload_n hx hb dX10_bytesIn_33 rfl (lv_at hl 1 rfl) ?_
          have hk : kCnt p0 = 2 := by simp [kCnt, kC1, hy_4, hy_68, hy_74, hy_80, c_5, c_69, c_75, c_81]
          exact W.iret (v := 2) hx hb hr (fun t ht hW => ⟨2, rfl, (by rw [hk]; rfl), ht⟩) (fun _ h => nomatch h) dX10_bytesIn_34
      · refine lv_iconst (v := 1) hx hb dX10_bytesIn_20 (by decide) ?_
        refine lv_goto (tgt := 25) hx hb dX10_bytesIn_21 (by decide) ?_
        refine lv_iadd hx hb dX10_bytesIn_25 ?_
        refine lv_topi (fun y_86 ey_86 => ?_)
        obtain rfl : y_86 = 2 := ey_86.trans (by decide)
        refine lv_istore_n (lv' := [(1, .int 2), (2, .int 8), (0, .int p0)]) hx hb dX10_bytesIn_26 rfl hl (by decide) rfl (fun ls hl => ?_)
        refine lv_iinc (v := 0) (lv' := [(2, .int 0), (1, .int 2), (0, .int p0)]) hx hb dX10_bytesIn_27 hl (k := 1) rfl (by decide) (by decide) rfl (fun ls hl => ?_)
        refine lv_goto (tgt := 5) hx hb dX10_bytesIn_30 (by decide) ?_
        refine lv_iload_n hx hb dX10_bytesIn_5 rfl (lv_at hl 0 rfl) ?_
        refine lv_if_lt (tgt := 33) hx hb dX10_bytesIn_6 (by decide) (fun c_87 => absurd c_87 (by decide)) (fun c_87 => ?_)
        refine lv_iload_n hx hb dX10_bytesIn_9 rfl (lv_at hl 1 rfl) ?_
        refine lv_iload_n hx hb dX10_bytesIn_10 rfl (lv_at hl 2 rfl) ?_
        refine lv_iload_n hx hb dX10_bytesIn_11 rfl (lv_at hl 0 rfl) ?_
        refine lv_ishr hx hb dX10_bytesIn_12 ?_
        refine lv_topi (fun x_88 ex_88 => ?_)
        refine lv_sipush (v := 255) hx hb dX10_bytesIn_13 (by decide) ?_
        refine lv_iand hx hb dX10_bytesIn_16 ?_
        refine lv_topi (fun x_89 ex_89 => ?_)
        have hy_90 : kS p0 0 = x_89 := by rw [ex_89, ex_88]; rfl
        refine lv_if_eq (tgt := 24) hx hb dX10_bytesIn_17 (by decide) (fun c_91 => ?_) (fun c_91 => ?_)
        · refine lv_iconst (v := 0) hx hb dX10_bytesIn_24 (by decide) ?_
          refine lv_iadd hx hb dX10_bytesIn_25 ?_
          refine lv_topi (fun y_92 ey_92 => ?_)
          obtain rfl : y_92 = 2 := ey_92.trans (by decide)
          refine lv_istore_n (lv' := [(1, .int 2), (2, .int 0), (0, .int p0)]) hx hb dX10_bytesIn_26 rfl hl (by decide) rfl (fun ls hl => ?_)
          refine lv_iinc (v := (-8)) (lv' := [(2, .int (-8)), (1, .int 2), (0, .int p0)]) hx hb dX10_bytesIn_27 hl (k := 1) rfl (by decide) (by decide) rfl (fun ls hl => ?_)
          refine lv_goto (tgt := 5) hx hb dX10_bytesIn_30 (by decide) ?_
          refine lv_iload_n hx hb dX10_bytesIn_5 rfl (lv_at hl 0 rfl) ?_
          refine lv_if_lt (tgt := 33) hx hb dX10_bytesIn_6 (by decide) (fun c_93 => ?_) (fun c_93 => absurd (by decide) c_93)
          refine lv_iload_n hx hb dX10_bytesIn_33 rfl (lv_at hl 1 rfl) ?_
          have hk : kCnt p0 = 2 := by simp [kCnt, kC1, hy_4, hy_68, hy_74, hy_90, c_5, c_69, c_75, c_91]
          exact W.iret (v := 2) hx hb hr (fun t ht hW => ⟨2, rfl, (by rw [hk]; rfl), ht⟩) (fun _ h => nomatch h) dX10_bytesIn_34
        · refine lv_iconst (v := 1) hx hb dX10_bytesIn_20 (by decide) ?_
          refine lv_goto (tgt := 25) hx hb dX10_bytesIn_21 (by decide) ?_
          refine lv_iadd hx hb dX10_bytesIn_25 ?_
          refine lv_topi (fun y_94 ey_94 => ?_)
          obtain rfl : y_94 = 3 := ey_94.trans (by decide)
          refine lv_istore_n (lv' := [(1, .int 3), (2, .int 0), (0, .int p0)]) hx hb dX10_bytesIn_26 rfl hl (by decide) rfl (fun ls hl => ?_)
          refine lv_iinc (v := (-8)) (lv' := [(2, .int (-8)), (1, .int 3), (0, .int p0)]) hx hb dX10_bytesIn_27 hl (k := 1) rfl (by decide) (by decide) rfl (fun ls hl => ?_)
          refine lv_goto (tgt := 5) hx hb dX10_bytesIn_30 (by decide) ?_
          refine lv_iload_n hx hb dX10_bytesIn_5 rfl (lv_at hl 0 rfl) ?_
          refine lv_if_lt (tgt := 33) hx hb dX10_bytesIn_6 (by decide) (fun c_95 => ?_) (fun c_95 => absurd (by decide) c_95)
          refine lv_iload_n hx hb dX10_bytesIn_33 rfl (lv_at hl 1 rfl) ?_
          have hk : kCnt p0 = 3 := by simp [kCnt, kC1, hy_4, hy_68, hy_74, hy_90, c_5, c_69, c_75, c_91]
          exact W.iret (v := 3) hx hb hr (fun t ht hW => ⟨3, rfl, (by rw [hk]; rfl), ht⟩) (fun _ h => nomatch h) dX10_bytesIn_34
    · refine lv_iconst (v := 1) hx hb dX10_bytesIn_20 (by decide) ?_
      refine lv_goto (tgt := 25) hx hb dX10_bytesIn_21 (by decide) ?_
      refine lv_iadd hx hb dX10_bytesIn_25 ?_
      refine lv_topi (fun y_96 ey_96 => ?_)
      obtain rfl : y_96 = 2 := ey_96.trans (by decide)
      refine lv_istore_n (lv' := [(1, .int 2), (2, .int 16), (0, .int p0)]) hx hb dX10_bytesIn_26 rfl hl (by decide) rfl (fun ls hl => ?_)
      refine lv_iinc (v := 8) (lv' := [(2, .int 8), (1, .int 2), (0, .int p0)]) hx hb dX10_bytesIn_27 hl (k := 1) rfl (by decide) (by decide) rfl (fun ls hl => ?_)
      refine lv_goto (tgt := 5) hx hb dX10_bytesIn_30 (by decide) ?_
      refine lv_iload_n hx hb dX10_bytesIn_5 rfl (lv_at hl 0 rfl) ?_
      refine lv_if_lt (tgt := 33) hx hb dX10_bytesIn_6 (by decide) (fun c_97 => absurd c_97 (by decide)) (fun c_97 => ?_)
      refine lv_iload_n hx hb dX10_bytesIn_9 rfl (lv_at hl 1 rfl) ?_
      refine lv_iload_n hx hb dX10_bytesIn_10 rfl (lv_at hl 2 rfl) ?_
      refine lv_iload_n hx hb dX10_bytesIn_11 rfl (lv_at hl 0 rfl) ?_
      refine lv_ishr hx hb dX10_bytesIn_12 ?_
      refine lv_topi (fun x_98 ex_98 => ?_)
      refine lv_sipush (v := 255) hx hb dX10_bytesIn_13 (by decide) ?_
      refine lv_iand hx hb dX10_bytesIn_16 ?_
      refine lv_topi (fun x_99 ex_99 => ?_)
      have hy_100 : kS p0 8 = x_99 := by rw [ex_99, ex_98]; rfl
      refine lv_if_eq (tgt := 24) hx hb dX10_bytesIn_17 (by decide) (fun c_101 => ?_) (fun c_101 => ?_)
      · refine lv_iconst (v := 0) hx hb dX10_bytesIn_24 (by decide) ?_
        refine lv_iadd hx hb dX10_bytesIn_25 ?_
        refine lv_topi (fun y_102 ey_102 => ?_)
        obtain rfl : y_102 = 2 := ey_102.trans (by decide)
        refine lv_istore_n (lv' := [(1, .int 2), (2, .int 8), (0, .int p0)]) hx hb dX10_bytesIn_26 rfl hl (by decide) rfl (fun ls hl => ?_)
        refine lv_iinc (v := 0) (lv' := [(2, .int 0), (1, .int 2), (0, .int p0)]) hx hb dX10_bytesIn_27 hl (k := 1) rfl (by decide) (by decide) rfl (fun ls hl => ?_)
        refine lv_goto (tgt := 5) hx hb dX10_bytesIn_30 (by decide) ?_
        refine lv_iload_n hx hb dX10_bytesIn_5 rfl (lv_at hl 0 rfl) ?_
        refine lv_if_lt (tgt := 33) hx hb dX10_bytesIn_6 (by decide) (fun c_103 => absurd c_103 (by decide)) (fun c_103 => ?_)
        refine lv_iload_n hx hb dX10_bytesIn_9 rfl (lv_at hl 1 rfl) ?_
        refine lv_iload_n hx hb dX10_bytesIn_10 rfl (lv_at hl 2 rfl) ?_
        refine lv_iload_n hx hb dX10_bytesIn_11 rfl (lv_at hl 0 rfl) ?_
        refine lv_ishr hx hb dX10_bytesIn_12 ?_
        refine lv_topi (fun x_104 ex_104 => ?_)
        refine lv_sipush (v := 255) hx hb dX10_bytesIn_13 (by decide) ?_
        refine lv_iand hx hb dX10_bytesIn_16 ?_
        refine lv_topi (fun x_105 ex_105 => ?_)
        have hy_106 : kS p0 0 = x_105 := by rw [ex_105, ex_104]; rfl
        refine lv_if_eq (tgt := 24) hx hb dX10_bytesIn_17 (by decide) (fun c_107 => ?_) (fun c_107 => ?_)
        · refine lv_iconst (v := 0) hx hb dX10_bytesIn_24 (by decide) ?_
          refine lv_iadd hx hb dX10_bytesIn_25 ?_
          refine lv_topi (fun y_108 ey_108 => ?_)
          obtain rfl : y_108 = 2 := ey_108.trans (by decide)
          refine lv_istore_n (lv' := [(1, .int 2), (2, .int 0), (0, .int p0)]) hx hb dX10_bytesIn_26 rfl hl (by decide) rfl (fun ls hl => ?_)
          refine lv_iinc (v := (-8)) (lv' := [(2, .int (-8)), (1, .int 2), (0, .int p0)]) hx hb dX10_bytesIn_27 hl (k := 1) rfl (by decide) (by decide) rfl (fun ls hl => ?_)
          refine lv_goto (tgt := 5) hx hb dX10_bytesIn_30 (by decide) ?_
          refine lv_iload_n hx hb dX10_bytesIn_5 rfl (lv_at hl 0 rfl) ?_
          refine lv_if_lt (tgt := 33) hx hb dX10_bytesIn_6 (by decide) (fun c_109 => ?_) (fun c_109 => absurd (by decide) c_109)
          refine lv_iload_n hx hb dX10_bytesIn_33 rfl (lv_at hl 1 rfl) ?_
          have hk : kCnt p0 = 2 := by simp [kCnt, kC1, hy_4, hy_68, hy_100, hy_106, c_5, c_69, c_101, c_107]
          exact W.iret (v := 2) hx hb hr (fun t ht hW => ⟨2, rfl, (by rw [hk]; rfl), ht⟩) (fun _ h => nomatch h) dX10_bytesIn_34
        · refine lv_iconst (v := 1) hx hb dX10_bytesIn_20 (by decide) ?_
          refine lv_goto (tgt := 25) hx hb dX10_bytesIn_21 (by decide) ?_
          refine lv_iadd hx hb dX10_bytesIn_25 ?_
          refine lv_topi (fun y_110 ey_110 => ?_)
          obtain rfl : y_110 = 3 := ey_110.trans (by decide)
          refine lv_istore_n (lv' := [(1, .int 3), (2, .int 0), (0, .int p0)]) hx hb dX10_bytesIn_26 rfl hl (by decide) rfl (fun ls hl => ?_)
          refine lv_iinc (v := (-8)) (lv' := [(2, .int (-8)), (1, .int 3), (0, .int p0)]) hx hb dX10_bytesIn_27 hl (k := 1) rfl (by decide) (by decide) rfl (fun ls hl => ?_)
          refine lv_goto (tgt := 5) hx hb dX10_bytesIn_30 (by decide) ?_
          refine lv_iload_n hx hb dX10_bytesIn_5 rfl (lv_at hl 0 rfl) ?_
          refine lv_if_lt (tgt := 33) hx hb dX10_bytesIn_6 (by decide) (fun c_111 => ?_) (fun c_111 => absurd (by decide) c_111)
          refine lv_iload_n hx hb dX10_bytesIn_33 rfl (lv_at hl 1 rfl) ?_
          have hk : kCnt p0 = 3 := by simp [kCnt, kC1, hy_4, hy_68, hy_100, hy_106, c_5, c_69, c_101, c_107]
          exact W.iret (v := 3) hx hb hr (fun t ht hW => ⟨3, rfl, (by rw [hk]; rfl), ht⟩) (fun _ h => nomatch h) dX10_bytesIn_34
      · refine lv_iconst (v := 1) hx hb dX10_bytesIn_20 (by decide) ?_
        refine lv_goto (tgt := 25) hx hb dX10_bytesIn_21 (by decide) ?_
        refine lv_iadd hx hb dX10_bytesIn_25 ?_
        refine lv_topi (fun y_112 ey_112 => ?_)
        obtain rfl : y_112 = 3 := ey_112.trans (by decide)
        refine lv_istore_n (lv' := [(1, .int 3), (2, .int 8), (0, .int p0)]) hx hb dX10_bytesIn_26 rfl hl (by decide) rfl (fun ls hl => ?_)
        refine lv_iinc (v := 0) (lv' := [(2, .int 0), (1, .int 3), (0, .int p0)]) hx hb dX10_bytesIn_27 hl (k := 1) rfl (by decide) (by decide) rfl (fun ls hl => ?_)
        refine lv_goto (tgt := 5) hx hb dX10_bytesIn_30 (by decide) ?_
        refine lv_iload_n hx hb dX10_bytesIn_5 rfl (lv_at hl 0 rfl) ?_
        refine lv_if_lt (tgt := 33) hx hb dX10_bytesIn_6 (by decide) (fun c_113 => absurd c_113 (by decide)) (fun c_113 => ?_)
        refine lv_iload_n hx hb dX10_bytesIn_9 rfl (lv_at hl 1 rfl) ?_
        refine lv_iload_n hx hb dX10_bytesIn_10 rfl (lv_at hl 2 rfl) ?_
        refine lv_iload_n hx hb dX10_bytesIn_11 rfl (lv_at hl 0 rfl) ?_
        refine lv_ishr hx hb dX10_bytesIn_12 ?_
        refine lv_topi (fun x_114 ex_114 => ?_)
        refine lv_sipush (v := 255) hx hb dX10_bytesIn_13 (by decide) ?_
        refine lv_iand hx hb dX10_bytesIn_16 ?_
        refine lv_topi (fun x_115 ex_115 => ?_)
        have hy_116 : kS p0 0 = x_115 := by rw [ex_115, ex_114]; rfl
        refine lv_if_eq (tgt := 24) hx hb dX10_bytesIn_17 (by decide) (fun c_117 => ?_) (fun c_117 => ?_)
        · refine lv_iconst (v := 0) hx hb dX10_bytesIn_24 (by decide) ?_
          refine lv_iadd hx hb dX10_bytesIn_25 ?_
          refine lv_topi (fun y_118 ey_118 => ?_)
          obtain rfl : y_118 = 3 := ey_118.trans (by decide)
          refine lv_istore_n (lv' := [(1, .int 3), (2, .int 0), (0, .int p0)]) hx hb dX10_bytesIn_26 rfl hl (by decide) rfl (fun ls hl => ?_)
          refine lv_iinc (v := (-8)) (lv' := [(2, .int (-8)), (1, .int 3), (0, .int p0)]) hx hb dX10_bytesIn_27 hl (k := 1) rfl (by decide) (by decide) rfl (fun ls hl => ?_)
          refine lv_goto (tgt := 5) hx hb dX10_bytesIn_30 (by decide) ?_
          refine lv_iload_n hx hb dX10_bytesIn_5 rfl (lv_at hl 0 rfl) ?_
          refine lv_if_lt (tgt := 33) hx hb dX10_bytesIn_6 (by decide) (fun c_119 => ?_) (fun c_119 => absurd (by decide) c_119)
          refine lv_iload_n hx hb dX10_bytesIn_33 rfl (lv_at hl 1 rfl) ?_
          have hk : kCnt p0 = 3 := by simp [kCnt, kC1, hy_4, hy_68, hy_100, hy_116, c_5, c_69, c_101, c_117]
          exact W.iret (v := 3) hx hb hr (fun t ht hW => ⟨3, rfl, (by rw [hk]; rfl), ht⟩) (fun _ h => nomatch h) dX10_bytesIn_34
        · refine lv_iconst (v := 1) hx hb dX10_bytesIn_20 (by decide) ?_
          refine lv_goto (tgt := 25) hx hb dX10_bytesIn_21 (by decide) ?_
          refine lv_iadd hx hb dX10_bytesIn_25 ?_
          refine lv_topi (fun y_120 ey_120 => ?_)
          obtain rfl : y_120 = 4 := ey_120.trans (by decide)
          refine lv_istore_n (lv' := [(1, .int 4), (2, .int 0), (0, .int p0)]) hx hb dX10_bytesIn_26 rfl hl (by decide) rfl (fun ls hl => ?_)
          refine lv_iinc (v := (-8)) (lv' := [(2, .int (-8)), (1, .int 4), (0, .int p0)]) hx hb dX10_bytesIn_27 hl (k := 1) rfl (by decide) (by decide) rfl (fun ls hl => ?_)
          refine lv_goto (tgt := 5) hx hb dX10_bytesIn_30 (by decide) ?_
          refine lv_iload_n hx hb dX10_bytesIn_5 rfl (lv_at hl 0 rfl) ?_
          refine lv_if_lt (tgt := 33) hx hb dX10_bytesIn_6 (by decide) (fun c_121 => ?_) (fun c_121 => absurd (by decide) c_121)
          refine lv_iload_n hx hb dX10_bytesIn_33 rfl (lv_at hl 1 rfl) ?_
          have hk : kCnt p0 = 4 := by simp [kCnt, kC1, hy_4, hy_68, hy_100, hy_116, c_5, c_69, c_101, c_117]
          exact W.iret (v := 4) hx hb hr (fun t ht hW => ⟨4, rfl, (by rw [hk]; rfl), ht⟩) (fun _ h => nomatch h) dX10_bytesIn_34

theorem dX10_isLaw_0 : decode cX10_isLaw 0 = .ok (.iload_n 1, 1) := by decide +kernel
theorem dX10_isLaw_1 : decode cX10_isLaw 1 = .ok (.ifCond .lt 15, 3) := by decide +kernel
theorem dX10_isLaw_16 : decode cX10_isLaw 16 = .ok (.iconst 0, 1) := by decide +kernel
theorem dX10_isLaw_17 : decode cX10_isLaw 17 = .ok (.ireturn, 1) := by decide +kernel
theorem dX10_isLaw_4 : decode cX10_isLaw 4 = .ok (.iload_n 1, 1) := by decide +kernel
theorem dX10_isLaw_5 : decode cX10_isLaw 5 = .ok (.aload_n 0, 1) := by decide +kernel
theorem dX10_isLaw_6 : decode cX10_isLaw 6 = .ok (.getfield 244, 3) := by decide +kernel
theorem dX10_isLaw_9 : decode cX10_isLaw 9 = .ok (.if_icmp .ge 7, 3) := by decide +kernel
def w_c_isLaw10 : List Cond := .code yX10_isLaw cX10_isLaw 2 (some .boolean) :: ([.fieldLink RX10 244 "NotEndedModel" "laws" "I"] ++ (wsX100))
theorem gw_c_isLaw10 : (w_c_isLaw10).all goodWord = true := by decide +kernel
set_option maxHeartbeats 4000000 in
set_option maxRecDepth 100000 in
theorem c_isLaw10 (l : Launch) (dC : Nat → ClassId) (dI : Nat → Nat → Nat) (h0 : Nat) (v0 : Value) (v1 : Value) (v2 : Value) (v3 : Value) (v4 : Value) (v5 : Value) (v6 : Value) (v8 : Value) (v9 : Value) (v10 : Value) (v11 : Value) (v12 : Value) (v13 : Value) (v14 : Value) (v15 : Value) (v16 : Value) (v17 : Value) (v18 : Value) (v19 : Value) (v20 : Value) (v21 : Value) (v22 : Value) (v23 : Value) (v24 : Value) (v25 : Value) (v26 : Value) (v27 : Value) (v28 : Value) (v29 : Value) (v30 : Value) (v31 : Value) (v32 : Value) (v33 : Value) (v34 : Value) (v35 : Value) (v36 : Value) (v37 : Value) (v38 : Value) (v39 : Value) (v40 : Value) (v41 : Value) (v42 : Value) (v43 : Value) (v44 : Value) (v45 : Value) (v46 : Value) (v47 : Value) (v48 : Value) (v49 : Value) (v50 : Value) (v51 : Value) (p0 : Int32) : Met l yX10_isLaw w_c_isLaw10 ({ frames := 1, cells := 0, slots := 0, locals := 60 }) (kR dC dI [.ref h0, .int p0] [(h0, .inr (10, [v0, v1, v2, v3, v4, v5, v6, .int 0, v8, v9, v10, v11, v12, v13, v14, v15, v16, v17, v18, v19, v20, v21, v22, v23, v24, v25, v26, v27, v28, v29, v30, v31, v32, v33, v34, v35, v36, v37, v38, v39, v40, v41, v42, v43, v44, v45, v46, v47, v48, v49, v50, v51]))] [] kT) (vp_Si (fun r : Int32 => r = 0)) 0 0 (fun _ => False) := by
  refine Met.ofW (cc := cX10_isLaw) (maxL := 2) (ret := (some .boolean)) (by decide) rfl ?_
  intro p e s m args below meth c s₁ B hml hv
  obtain ⟨rfl, hP, hK, hX⟩ := hv
  have hx := B.exec
  have hb := B.bytes
  have hr := B.returns
  have hts := atoms_spec (ws := w_c_isLaw10) B.pre
  have hown : s.vm.findClass RX10 = some m.cls := findClass_of_methodNamed B.named
  have hlocks := B.notSynchronized
  have hP : va_P (dC, dI) vwCl [(h0, .inr (10, [v0, v1, v2, v3, v4, v5, v6, .int 0, v8, v9, v10, v11, v12, v13, v14, v15, v16, v17, v18, v19, v20, v21, v22, v23, v24, v25, v26, v27, v28, v29, v30, v31, v32, v33, v34, v35, v36, v37, v38, v39, v40, v41, v42, v43, v44, v45, v46, v47, v48, v49, v50, v51]))] s.heap := hP
  have hl := lv_entry ([.ref h0, .int p0]) (n := 2) (Nat.le_of_ble_eq_true rfl)
  rw [lg_entry_eq]
  generalize (lg_sl ([.ref h0, .int p0]) ++ List.replicate (2 - (lg_sl ([.ref h0, .int p0])).length) Slot.unset).toArray = ls at hl ⊢
  have hl : lv_has ls 2 [(0, .ref h0), (1, .int p0)] := hl
  refine lv_iload_n hx hb dX10_isLaw_0 rfl (lv_at hl 1 rfl) ?_
  refine lv_if_lt (tgt := 16) hx hb dX10_isLaw_1 (by decide) (fun c_1 => ?_) (fun c_1 => ?_)
  · refine lv_iconst (v := 0) hx hb dX10_isLaw_16 (by decide) ?_
    exact W.zret (v := 0) hx hb hr rfl (fun t ht hW => ⟨0, rfl, rfl, ht⟩) (fun _ h => nomatch h) dX10_isLaw_17
  · refine lv_iload_n hx hb dX10_isLaw_4 rfl (lv_at hl 1 rfl) ?_
    refine lv_aload_n hx hb dX10_isLaw_5 rfl (lv_at hl 0 rfl) ?_
    refine va_get (D := (dC, dI)) (ci := 10) (v := .int 0) (C := RX10) (T := TX10) (N := 52) hx hb hts (fun _ h => List.mem_cons_of_mem _ (List.mem_append_right _ h)) hown hK hP 0 rfl rfl 7 (by decide) (hts (.fieldLink RX10 244 "NotEndedModel" "laws" "I") (List.mem_cons_of_mem _ (List.mem_append_left _ (List.mem_of_getElem? (i := 0) rfl)))) (fun _ h9 => h9) rfl dX10_isLaw_6 ?_
    refine lv_icmp_ge (tgt := 16) hx hb dX10_isLaw_9 (by decide) (fun c_2 => ?_) (fun c_2 => absurd (Int32.not_lt.mp c_1) c_2)
    refine lv_iconst (v := 0) hx hb dX10_isLaw_16 (by decide) ?_
    exact W.zret (v := 0) hx hb hr rfl (fun t ht hW => ⟨0, rfl, rfl, ht⟩) (fun _ h => nomatch h) dX10_isLaw_17

theorem dX10_isTurning_0 : decode cX10_isTurning 0 = .ok (.iload_n 1, 1) := by decide +kernel
theorem dX10_isTurning_1 : decode cX10_isTurning 1 = .ok (.ifCond .lt 15, 3) := by decide +kernel
theorem dX10_isTurning_16 : decode cX10_isTurning 16 = .ok (.iconst 0, 1) := by decide +kernel
theorem dX10_isTurning_17 : decode cX10_isTurning 17 = .ok (.ireturn, 1) := by decide +kernel
theorem dX10_isTurning_4 : decode cX10_isTurning 4 = .ok (.iload_n 1, 1) := by decide +kernel
theorem dX10_isTurning_5 : decode cX10_isTurning 5 = .ok (.aload_n 0, 1) := by decide +kernel
theorem dX10_isTurning_6 : decode cX10_isTurning 6 = .ok (.getfield 247, 3) := by decide +kernel
theorem dX10_isTurning_9 : decode cX10_isTurning 9 = .ok (.if_icmp .ge 7, 3) := by decide +kernel
def w_c_isTurning10 : List Cond := .code yX10_isTurning cX10_isTurning 2 (some .boolean) :: ([.fieldLink RX10 247 "NotEndedModel" "turnings" "I"] ++ (wsX100))
theorem gw_c_isTurning10 : (w_c_isTurning10).all goodWord = true := by decide +kernel
set_option maxHeartbeats 4000000 in
set_option maxRecDepth 100000 in
theorem c_isTurning10 (l : Launch) (dC : Nat → ClassId) (dI : Nat → Nat → Nat) (h0 : Nat) (v0 : Value) (v1 : Value) (v2 : Value) (v3 : Value) (v4 : Value) (v5 : Value) (v6 : Value) (v7 : Value) (v9 : Value) (v10 : Value) (v11 : Value) (v12 : Value) (v13 : Value) (v14 : Value) (v15 : Value) (v16 : Value) (v17 : Value) (v18 : Value) (v19 : Value) (v20 : Value) (v21 : Value) (v22 : Value) (v23 : Value) (v24 : Value) (v25 : Value) (v26 : Value) (v27 : Value) (v28 : Value) (v29 : Value) (v30 : Value) (v31 : Value) (v32 : Value) (v33 : Value) (v34 : Value) (v35 : Value) (v36 : Value) (v37 : Value) (v38 : Value) (v39 : Value) (v40 : Value) (v41 : Value) (v42 : Value) (v43 : Value) (v44 : Value) (v45 : Value) (v46 : Value) (v47 : Value) (v48 : Value) (v49 : Value) (v50 : Value) (v51 : Value) (p0 : Int32) : Met l yX10_isTurning w_c_isTurning10 ({ frames := 1, cells := 0, slots := 0, locals := 60 }) (kR dC dI [.ref h0, .int p0] [(h0, .inr (10, [v0, v1, v2, v3, v4, v5, v6, v7, .int 0, v9, v10, v11, v12, v13, v14, v15, v16, v17, v18, v19, v20, v21, v22, v23, v24, v25, v26, v27, v28, v29, v30, v31, v32, v33, v34, v35, v36, v37, v38, v39, v40, v41, v42, v43, v44, v45, v46, v47, v48, v49, v50, v51]))] [] kT) (vp_Si (fun r : Int32 => r = 0)) 0 0 (fun _ => False) := by
  refine Met.ofW (cc := cX10_isTurning) (maxL := 2) (ret := (some .boolean)) (by decide) rfl ?_
  intro p e s m args below meth c s₁ B hml hv
  obtain ⟨rfl, hP, hK, hX⟩ := hv
  have hx := B.exec
  have hb := B.bytes
  have hr := B.returns
  have hts := atoms_spec (ws := w_c_isTurning10) B.pre
  have hown : s.vm.findClass RX10 = some m.cls := findClass_of_methodNamed B.named
  have hlocks := B.notSynchronized
  have hP : va_P (dC, dI) vwCl [(h0, .inr (10, [v0, v1, v2, v3, v4, v5, v6, v7, .int 0, v9, v10, v11, v12, v13, v14, v15, v16, v17, v18, v19, v20, v21, v22, v23, v24, v25, v26, v27, v28, v29, v30, v31, v32, v33, v34, v35, v36, v37, v38, v39, v40, v41, v42, v43, v44, v45, v46, v47, v48, v49, v50, v51]))] s.heap := hP
  have hl := lv_entry ([.ref h0, .int p0]) (n := 2) (Nat.le_of_ble_eq_true rfl)
  rw [lg_entry_eq]
  generalize (lg_sl ([.ref h0, .int p0]) ++ List.replicate (2 - (lg_sl ([.ref h0, .int p0])).length) Slot.unset).toArray = ls at hl ⊢
  have hl : lv_has ls 2 [(0, .ref h0), (1, .int p0)] := hl
  refine lv_iload_n hx hb dX10_isTurning_0 rfl (lv_at hl 1 rfl) ?_
  refine lv_if_lt (tgt := 16) hx hb dX10_isTurning_1 (by decide) (fun c_1 => ?_) (fun c_1 => ?_)
  · refine lv_iconst (v := 0) hx hb dX10_isTurning_16 (by decide) ?_
    exact W.zret (v := 0) hx hb hr rfl (fun t ht hW => ⟨0, rfl, rfl, ht⟩) (fun _ h => nomatch h) dX10_isTurning_17
  · refine lv_iload_n hx hb dX10_isTurning_4 rfl (lv_at hl 1 rfl) ?_
    refine lv_aload_n hx hb dX10_isTurning_5 rfl (lv_at hl 0 rfl) ?_
    refine va_get (D := (dC, dI)) (ci := 10) (v := .int 0) (C := RX10) (T := TX10) (N := 52) hx hb hts (fun _ h => List.mem_cons_of_mem _ (List.mem_append_right _ h)) hown hK hP 0 rfl rfl 8 (by decide) (hts (.fieldLink RX10 247 "NotEndedModel" "turnings" "I") (List.mem_cons_of_mem _ (List.mem_append_left _ (List.mem_of_getElem? (i := 0) rfl)))) (fun _ h9 => h9) rfl dX10_isTurning_6 ?_
    refine lv_icmp_ge (tgt := 16) hx hb dX10_isTurning_9 (by decide) (fun c_2 => ?_) (fun c_2 => absurd (Int32.not_lt.mp c_1) c_2)
    refine lv_iconst (v := 0) hx hb dX10_isTurning_16 (by decide) ?_
    exact W.zret (v := 0) hx hb hr rfl (fun t ht hW => ⟨0, rfl, rfl, ht⟩) (fun _ h => nomatch h) dX10_isTurning_17

theorem dX10_isPerson_0 : decode cX10_isPerson 0 = .ok (.iload_n 1, 1) := by decide +kernel
theorem dX10_isPerson_1 : decode cX10_isPerson 1 = .ok (.ifCond .lt 15, 3) := by decide +kernel
theorem dX10_isPerson_16 : decode cX10_isPerson 16 = .ok (.iconst 0, 1) := by decide +kernel
theorem dX10_isPerson_17 : decode cX10_isPerson 17 = .ok (.ireturn, 1) := by decide +kernel
theorem dX10_isPerson_4 : decode cX10_isPerson 4 = .ok (.iload_n 1, 1) := by decide +kernel
theorem dX10_isPerson_5 : decode cX10_isPerson 5 = .ok (.aload_n 0, 1) := by decide +kernel
theorem dX10_isPerson_6 : decode cX10_isPerson 6 = .ok (.getfield 250, 3) := by decide +kernel
theorem dX10_isPerson_9 : decode cX10_isPerson 9 = .ok (.if_icmp .ge 7, 3) := by decide +kernel
def w_c_isPerson10 : List Cond := .code yX10_isPerson cX10_isPerson 2 (some .boolean) :: ([.fieldLink RX10 250 "NotEndedModel" "persons" "I"] ++ (wsX100))
theorem gw_c_isPerson10 : (w_c_isPerson10).all goodWord = true := by decide +kernel
set_option maxHeartbeats 4000000 in
set_option maxRecDepth 100000 in
theorem c_isPerson10 (l : Launch) (dC : Nat → ClassId) (dI : Nat → Nat → Nat) (h0 : Nat) (v0 : Value) (v1 : Value) (v2 : Value) (v3 : Value) (v4 : Value) (v5 : Value) (v6 : Value) (v7 : Value) (v8 : Value) (v9 : Value) (v10 : Value) (v11 : Value) (v12 : Value) (v13 : Value) (v14 : Value) (v15 : Value) (v16 : Value) (v17 : Value) (v18 : Value) (v19 : Value) (v20 : Value) (v21 : Value) (v22 : Value) (v23 : Value) (v24 : Value) (v25 : Value) (v27 : Value) (v28 : Value) (v29 : Value) (v30 : Value) (v31 : Value) (v32 : Value) (v33 : Value) (v34 : Value) (v35 : Value) (v36 : Value) (v37 : Value) (v38 : Value) (v39 : Value) (v40 : Value) (v41 : Value) (v42 : Value) (v43 : Value) (v44 : Value) (v45 : Value) (v46 : Value) (v47 : Value) (v48 : Value) (v49 : Value) (v50 : Value) (v51 : Value) (p0 : Int32) : Met l yX10_isPerson w_c_isPerson10 ({ frames := 1, cells := 0, slots := 0, locals := 60 }) (kR dC dI [.ref h0, .int p0] [(h0, .inr (10, [v0, v1, v2, v3, v4, v5, v6, v7, v8, v9, v10, v11, v12, v13, v14, v15, v16, v17, v18, v19, v20, v21, v22, v23, v24, v25, .int 0, v27, v28, v29, v30, v31, v32, v33, v34, v35, v36, v37, v38, v39, v40, v41, v42, v43, v44, v45, v46, v47, v48, v49, v50, v51]))] [] kT) (vp_Si (fun r : Int32 => r = 0)) 0 0 (fun _ => False) := by
  refine Met.ofW (cc := cX10_isPerson) (maxL := 2) (ret := (some .boolean)) (by decide) rfl ?_
  intro p e s m args below meth c s₁ B hml hv
  obtain ⟨rfl, hP, hK, hX⟩ := hv
  have hx := B.exec
  have hb := B.bytes
  have hr := B.returns
  have hts := atoms_spec (ws := w_c_isPerson10) B.pre
  have hown : s.vm.findClass RX10 = some m.cls := findClass_of_methodNamed B.named
  have hlocks := B.notSynchronized
  have hP : va_P (dC, dI) vwCl [(h0, .inr (10, [v0, v1, v2, v3, v4, v5, v6, v7, v8, v9, v10, v11, v12, v13, v14, v15, v16, v17, v18, v19, v20, v21, v22, v23, v24, v25, .int 0, v27, v28, v29, v30, v31, v32, v33, v34, v35, v36, v37, v38, v39, v40, v41, v42, v43, v44, v45, v46, v47, v48, v49, v50, v51]))] s.heap := hP
  have hl := lv_entry ([.ref h0, .int p0]) (n := 2) (Nat.le_of_ble_eq_true rfl)
  rw [lg_entry_eq]
  generalize (lg_sl ([.ref h0, .int p0]) ++ List.replicate (2 - (lg_sl ([.ref h0, .int p0])).length) Slot.unset).toArray = ls at hl ⊢
  have hl : lv_has ls 2 [(0, .ref h0), (1, .int p0)] := hl
  refine lv_iload_n hx hb dX10_isPerson_0 rfl (lv_at hl 1 rfl) ?_
  refine lv_if_lt (tgt := 16) hx hb dX10_isPerson_1 (by decide) (fun c_1 => ?_) (fun c_1 => ?_)
  · refine lv_iconst (v := 0) hx hb dX10_isPerson_16 (by decide) ?_
    exact W.zret (v := 0) hx hb hr rfl (fun t ht hW => ⟨0, rfl, rfl, ht⟩) (fun _ h => nomatch h) dX10_isPerson_17
  · refine lv_iload_n hx hb dX10_isPerson_4 rfl (lv_at hl 1 rfl) ?_
    refine lv_aload_n hx hb dX10_isPerson_5 rfl (lv_at hl 0 rfl) ?_
    refine va_get (D := (dC, dI)) (ci := 10) (v := .int 0) (C := RX10) (T := TX10) (N := 52) hx hb hts (fun _ h => List.mem_cons_of_mem _ (List.mem_append_right _ h)) hown hK hP 0 rfl rfl 26 (by decide) (hts (.fieldLink RX10 250 "NotEndedModel" "persons" "I") (List.mem_cons_of_mem _ (List.mem_append_left _ (List.mem_of_getElem? (i := 0) rfl)))) (fun _ h9 => h9) rfl dX10_isPerson_6 ?_
    refine lv_icmp_ge (tgt := 16) hx hb dX10_isPerson_9 (by decide) (fun c_2 => ?_) (fun c_2 => absurd (Int32.not_lt.mp c_1) c_2)
    refine lv_iconst (v := 0) hx hb dX10_isPerson_16 (by decide) ?_
    exact W.zret (v := 0) hx hb hr rfl (fun t ht hW => ⟨0, rfl, rfl, ht⟩) (fun _ h => nomatch h) dX10_isPerson_17

theorem dX10_isAsked_0 : decode cX10_isAsked 0 = .ok (.aload_n 0, 1) := by decide +kernel
theorem dX10_isAsked_1 : decode cX10_isAsked 1 = .ok (.iload_n 1, 1) := by decide +kernel
theorem dX10_isAsked_2 : decode cX10_isAsked 2 = .ok (.invokevirtual 311, 3) := by decide +kernel
theorem dX10_isAsked_5 : decode cX10_isAsked 5 = .ok (.ifCond .eq 24, 3) := by decide +kernel
theorem dX10_isAsked_29 : decode cX10_isAsked 29 = .ok (.iconst 0, 1) := by decide +kernel
theorem dX10_isAsked_30 : decode cX10_isAsked 30 = .ok (.ireturn, 1) := by decide +kernel
def w_c_isAsked10 : List Cond := .code yX10_isAsked cX10_isAsked 3 (some .boolean) :: ([.initialized RX10, .selects RX10 yX10_isLaw yX10_isLaw, .instanceMethod yX10_isLaw, .methodLink RX10 311 yX10_isLaw] ++ (w_c_isLaw10))
theorem gw_c_isAsked10 : (w_c_isAsked10).all goodWord = true := by decide +kernel
set_option maxHeartbeats 4000000 in
set_option maxRecDepth 100000 in
theorem c_isAsked10 (l : Launch) (dC : Nat → ClassId) (dI : Nat → Nat → Nat) (h0 : Nat) (v0 : Value) (v1 : Value) (v2 : Value) (v3 : Value) (v4 : Value) (v5 : Value) (v6 : Value) (v8 : Value) (v9 : Value) (v10 : Value) (v11 : Value) (v12 : Value) (v13 : Value) (v14 : Value) (v15 : Value) (v16 : Value) (v17 : Value) (v18 : Value) (v19 : Value) (v20 : Value) (v21 : Value) (v22 : Value) (v23 : Value) (v24 : Value) (v25 : Value) (v26 : Value) (v27 : Value) (v28 : Value) (v29 : Value) (v30 : Value) (v31 : Value) (v32 : Value) (v33 : Value) (v34 : Value) (v35 : Value) (v36 : Value) (v37 : Value) (v38 : Value) (v39 : Value) (v40 : Value) (v41 : Value) (v42 : Value) (v43 : Value) (v44 : Value) (v45 : Value) (v46 : Value) (v47 : Value) (v48 : Value) (v49 : Value) (v50 : Value) (v51 : Value) (p0 : Int32) (p1 : Int32) : Met l yX10_isAsked w_c_isAsked10 ({ frames := 2, cells := 0, slots := 0, locals := 120 }) (kR dC dI [.ref h0, .int p0, .int p1] [(h0, .inr (10, [v0, v1, v2, v3, v4, v5, v6, .int 0, v8, v9, v10, v11, v12, v13, v14, v15, v16, v17, v18, v19, v20, v21, v22, v23, v24, v25, v26, v27, v28, v29, v30, v31, v32, v33, v34, v35, v36, v37, v38, v39, v40, v41, v42, v43, v44, v45, v46, v47, v48, v49, v50, v51]))] [] kT) (vp_Si (fun r : Int32 => r = 0)) 0 0 (fun _ => False) := by
  refine Met.ofW (cc := cX10_isAsked) (maxL := 3) (ret := (some .boolean)) (by decide) rfl ?_
  intro p e s m args below meth c s₁ B hml hv
  obtain ⟨rfl, hP, hK, hX⟩ := hv
  have hx := B.exec
  have hb := B.bytes
  have hr := B.returns
  have hts := atoms_spec (ws := w_c_isAsked10) B.pre
  have hown : s.vm.findClass RX10 = some m.cls := findClass_of_methodNamed B.named
  have hlocks := B.notSynchronized
  have hP : va_P (dC, dI) vwCl [(h0, .inr (10, [v0, v1, v2, v3, v4, v5, v6, .int 0, v8, v9, v10, v11, v12, v13, v14, v15, v16, v17, v18, v19, v20, v21, v22, v23, v24, v25, v26, v27, v28, v29, v30, v31, v32, v33, v34, v35, v36, v37, v38, v39, v40, v41, v42, v43, v44, v45, v46, v47, v48, v49, v50, v51]))] s.heap := hP
  have hl := lv_entry ([.ref h0, .int p0, .int p1]) (n := 3) (Nat.le_of_ble_eq_true rfl)
  rw [lg_entry_eq]
  generalize (lg_sl ([.ref h0, .int p0, .int p1]) ++ List.replicate (3 - (lg_sl ([.ref h0, .int p0, .int p1])).length) Slot.unset).toArray = ls at hl ⊢
  have hl : lv_has ls 3 [(0, .ref h0), (1, .int p0), (2, .int p1)] := hl
  refine lv_aload_n hx hb dX10_isAsked_0 rfl (lv_at hl 0 rfl) ?_
  refine lv_iload_n hx hb dX10_isAsked_1 rfl (lv_at hl 1 rfl) ?_
  have hPc := hP.sub (ws' := [(h0, .inr (10, [v0, v1, v2, v3, v4, v5, v6, .int 0, v8, v9, v10, v11, v12, v13, v14, v15, v16, v17, v18, v19, v20, v21, v22, v23, v24, v25, v26, v27, v28, v29, v30, v31, v32, v33, v34, v35, v36, v37, v38, v39, v40, v41, v42, v43, v44, v45, v46, v47, v48, v49, v50, v51]))]) [0] rfl
  have hKc := hK.sub (tys' := []) [] rfl
  refine vp_callSi (va_runV (As := [.int p0]) (rest := []) ⟨hx, hb, hml, hown, hts⟩ (c_isLaw10 l dC dI h0 (v0 : Value) (v1 : Value) (v2 : Value) (v3 : Value) (v4 : Value) (v5 : Value) (v6 : Value) (v8 : Value) (v9 : Value) (v10 : Value) (v11 : Value) (v12 : Value) (v13 : Value) (v14 : Value) (v15 : Value) (v16 : Value) (v17 : Value) (v18 : Value) (v19 : Value) (v20 : Value) (v21 : Value) (v22 : Value) (v23 : Value) (v24 : Value) (v25 : Value) (v26 : Value) (v27 : Value) (v28 : Value) (v29 : Value) (v30 : Value) (v31 : Value) (v32 : Value) (v33 : Value) (v34 : Value) (v35 : Value) (v36 : Value) (v37 : Value) (v38 : Value) (v39 : Value) (v40 : Value) (v41 : Value) (v42 : Value) (v43 : Value) (v44 : Value) (v45 : Value) (v46 : Value) (v47 : Value) (v48 : Value) (v49 : Value) (v50 : Value) (v51 : Value) p0) (cwV 1 hts (kG (List.forall_mem_cons.mpr ⟨(List.mem_cons_of_mem _ (List.mem_append_left _ (List.mem_of_getElem? (i := 3) rfl))), (List.forall_mem_cons.mpr ⟨(List.mem_cons_of_mem _ (List.mem_append_left _ (List.mem_of_getElem? (i := 2) rfl))), (List.forall_mem_cons.mpr ⟨(List.mem_cons_of_mem _ (List.mem_append_left _ (List.mem_of_getElem? (i := 1) rfl))), (List.forall_mem_cons.mpr ⟨(List.mem_cons_of_mem _ (List.mem_append_left _ (List.mem_of_getElem? (i := 0) rfl))), (fun _ h => absurd h List.not_mem_nil)⟩)⟩)⟩)⟩) (by decide +kernel) (fun _ h => List.mem_cons_of_mem _ (List.mem_append_right _ h)) gw_c_isLaw10) rfl rfl rfl (by decide +kernel) ⟨(Nat.le_of_ble_eq_true rfl), (Nat.le_of_ble_eq_true rfl)⟩) (kR_V kT_blind kT_give (va_recv hKc hPc (ci := 10) (q0 := 0) rfl rfl) hPc hKc) rfl rfl hl.1 rfl (lv_room (Nat.le_of_ble_eq_true rfl)) dX10_isAsked_2 ⟨(Nat.le_of_ble_eq_true rfl), (Nat.le_of_ble_eq_true rfl)⟩).run (fun r_1 hw => ?_)
  obtain rfl : r_1 = 0 := hw
  refine lv_if_eq (tgt := 29) hx hb dX10_isAsked_5 (by decide) (fun c_2 => ?_) (fun c_2 => absurd (by decide) c_2)
  refine lv_iconst (v := 0) hx hb dX10_isAsked_29 (by decide) ?_
  exact W.zret (v := 0) hx hb hr rfl (fun t ht hW => ⟨0, rfl, rfl, ht⟩) (fun _ h => nomatch h) dX10_isAsked_30
