theorem dL_law_385 : decode cL_law 385 = .ok (.aload_n 1, 1) := by decide +kernel
theorem dL_law_386 : decode cL_law 386 = .ok (.aload_n 0, 1) := by decide +kernel
theorem dL_law_387 : decode cL_law 387 = .ok (.iload 4, 2) := by decide +kernel
theorem dL_law_389 : decode cL_law 389 = .ok (.iconst 1, 1) := by decide +kernel
theorem dL_law_390 : decode cL_law 390 = .ok (.iadd, 1) := by decide +kernel
theorem dL_law_391 : decode cL_law 391 = .ok (.iaload, 1) := by decide +kernel
theorem dL_law_392 : decode cL_law 392 = .ok (.aload_n 0, 1) := by decide +kernel
theorem dL_law_393 : decode cL_law 393 = .ok (.iload 4, 2) := by decide +kernel
theorem dL_law_395 : decode cL_law 395 = .ok (.iconst 2, 1) := by decide +kernel
theorem dL_law_396 : decode cL_law 396 = .ok (.iadd, 1) := by decide +kernel
theorem dL_law_397 : decode cL_law 397 = .ok (.iaload, 1) := by decide +kernel
theorem dL_law_398 : decode cL_law 398 = .ok (.invokevirtual 43, 3) := by decide +kernel
theorem dL_law_401 : decode cL_law 401 = .ok (.aload_n 2, 1) := by decide +kernel
theorem dL_law_402 : decode cL_law 402 = .ok (.aload_n 0, 1) := by decide +kernel
theorem dL_law_403 : decode cL_law 403 = .ok (.iload 4, 2) := by decide +kernel
theorem dL_law_405 : decode cL_law 405 = .ok (.iconst 1, 1) := by decide +kernel
theorem dL_law_406 : decode cL_law 406 = .ok (.iadd, 1) := by decide +kernel
theorem dL_law_407 : decode cL_law 407 = .ok (.iaload, 1) := by decide +kernel
theorem dL_law_408 : decode cL_law 408 = .ok (.aload_n 0, 1) := by decide +kernel
theorem dL_law_409 : decode cL_law 409 = .ok (.iload 4, 2) := by decide +kernel
theorem dL_law_411 : decode cL_law 411 = .ok (.iconst 2, 1) := by decide +kernel
theorem dL_law_412 : decode cL_law 412 = .ok (.iadd, 1) := by decide +kernel
theorem dL_law_413 : decode cL_law 413 = .ok (.iaload, 1) := by decide +kernel
theorem dL_law_414 : decode cL_law 414 = .ok (.invokevirtual 47, 3) := by decide +kernel
theorem dL_law_417 : decode cL_law 417 = .ok (.if_icmp .eq 1375, 3) := by decide +kernel
set_option maxHeartbeats 4000000 in
set_option maxRecDepth 100000 in
theorem law_5 {p : Program} {l : Launch} {e : Env} {s : State} {m : MethodId} {below : List Frame} {meth : Method} {c : Code} {b : Nat} {xs : Nat → Int32} {dC : Nat → ClassId} {dI : Nat → Nat → Nat} {ad : Nat → Nat} {h0 : Nat} {g0 : Nat} {o0 : Nat} {jT : Nat} {jR : Nat} {e2 : Nat} {jL : Nat} {jU : Nat} {jF : Nat} {e6 : Nat} {jN : Nat} {jA : Nat} {e9 : Nat} {t0 : Nat} {r1 : Nat} {r2 : Nat} {l0 : Nat} {m0 : Nat} {f0 : Nat} {f1 : Nat} {f2 : Nat} {f3 : Nat} {f4 : Nat} {n0 : Nat} {n1 : Nat} {n2 : Nat} {n3 : Nat} {n4 : Nat} {a0 : Nat} {a1 : Nat} {a2 : Nat} {a3 : Nat} {cC : ClassId} {cL : ClassId} {cM : ClassId} {z0 : ClassId} {z1 : ClassId} {z2 : ClassId} {z4 : ClassId} {b1 : Nat} {b2 : Nat} {b3 : Nat} {b4 : Nat} {b19 : Nat} {b20 : Nat} {b21 : Nat} {b22 : Nat} {b23 : Nat} {b24 : Nat} {b25 : Nat} {b28 : Nat} {b29 : Nat} {b30 : Nat} {b31 : Nat} {b32 : Nat} {b33 : Nat} {b34 : Nat} {b35 : Nat} {b36 : Nat} {b40 : Nat} {b41 : Nat} {b42 : Nat} {b43 : Nat} {b44 : Nat} {b46 : Nat} {b47 : Nat} {b48 : Nat} {b49 : Nat} {b50 : Nat} {y1 : ClassId} {y19 : ClassId} {y20 : ClassId} {y21 : ClassId} {y22 : ClassId} {y23 : ClassId} {y24 : ClassId} {y25 : ClassId} {cO : ClassId} (C0 : lw_At p s m meth c b 7 xs) (hXX : kLaw ad s) {H : Heap} {locs : List Loc} (hK : va_K (dC, dI) vwCl [(cC, .char), (cL, .object RX6), (cM, .object RX6), (z0, .int), (z1, .int), (z2, .int), (z4, .int), (y1, .byte), (y19, .int), (y20, .int), (y21, .int), (y22, .int), (y23, .int), (y24, .int), (y25, .boolean), (cO, .long)] s) (hP : va_P (dC, dI) vwCl [(h0, .inr (9, [.ref jT, .ref jR, .ref e2, .ref jL, .ref jU, .ref jF, .ref e6, .ref jN, .ref jA, .ref e9])), (jT, .inr (8, [.ref t0, .int 0])), (t0, .inl (cC, 120, .inl (fun _ => 0))), (jR, .inr (4, [.ref jT, .ref r1, .ref r2, .int 0, .int 0, .int 0, .ref (ad 0), .ref (ad 0)])), (jL, .inr (7, [.ref l0, .int 0])), (l0, .inl (cL, 6, .inr (.inr (.inr (.inr (fun _ => none)))))), (jU, .inr (7, [.ref m0, .int 0])), (m0, .inl (cM, 8, .inr (.inr (.inr (.inr (fun _ => none)))))), (jF, .inr (2, [.ref f0, .ref f1, .ref f2, .ref f3, .ref f4, .int 0, .int 0, .int 0])), (f0, .inl (z0, 10, .inl (fun _ => 0))), (f1, .inl (z1, 10, .inl (fun _ => 0))), (f2, .inl (z2, 10, .inl (fun _ => 0))), (f4, .inl (z4, 4, .inl (fun _ => 0))), (jN, .inr (3, [.ref n0, .ref n1, .ref n2, .ref n3, .ref n4, .int 0])), (jA, .inr (0, [.ref a0, .ref a1, .ref a2, .ref a3, .int 0])), (g0, .inr (10, [.int 0, .ref b1, .ref b2, .ref b3, .ref b4, .ref b1, .int 0, .int 0, .int 0, .int 0, .int 0, .int 0, .int 0, .int 0, .int 0, .int 0, .ref (ad 5), .ref (ad 7), .int 0, .ref b19, .ref b20, .ref b21, .ref b22, .ref b23, .ref b24, .ref b25, .int 0, .int 0, .ref b28, .ref b29, .ref b30, .ref b31, .ref b32, .ref b33, .ref b34, .ref b35, .ref b36, .int 0, .int 0, .long 0, .ref b40, .ref b41, .ref b42, .ref b43, .ref b44, .int 0, .ref b46, .ref b47, .ref b48, .ref b49, .ref b50, .int 0])), (b1, .inl (y1, 120, .inl (fun _ => 0))), (b19, .inl (y19, 10, .inl (fun _ => 0))), (b20, .inl (y20, 10, .inl (fun _ => 0))), (b21, .inl (y21, 10, .inl (fun _ => 0))), (b22, .inl (y22, 10, .inl (fun _ => 0))), (b23, .inl (y23, 10, .inl (fun _ => 0))), (b24, .inl (y24, 4, .inl (fun _ => 0))), (b25, .inl (y25, 10, .inl (fun _ => 0))), (o0, .inl (cO, 1, .inr (.inl (fun _ => 0))))] H) (hD : va_D (fun q : Nat => s.heap.size ≤ q) [(h0, .inr (9, [.ref jT, .ref jR, .ref e2, .ref jL, .ref jU, .ref jF, .ref e6, .ref jN, .ref jA, .ref e9])), (jT, .inr (8, [.ref t0, .int 0])), (t0, .inl (cC, 120, .inl (fun _ => 0))), (jR, .inr (4, [.ref jT, .ref r1, .ref r2, .int 0, .int 0, .int 0, .ref (ad 0), .ref (ad 0)])), (jL, .inr (7, [.ref l0, .int 0])), (l0, .inl (cL, 6, .inr (.inr (.inr (.inr (fun _ => none)))))), (jU, .inr (7, [.ref m0, .int 0])), (m0, .inl (cM, 8, .inr (.inr (.inr (.inr (fun _ => none)))))), (jF, .inr (2, [.ref f0, .ref f1, .ref f2, .ref f3, .ref f4, .int 0, .int 0, .int 0])), (f0, .inl (z0, 10, .inl (fun _ => 0))), (f1, .inl (z1, 10, .inl (fun _ => 0))), (f2, .inl (z2, 10, .inl (fun _ => 0))), (f4, .inl (z4, 4, .inl (fun _ => 0))), (jN, .inr (3, [.ref n0, .ref n1, .ref n2, .ref n3, .ref n4, .int 0])), (jA, .inr (0, [.ref a0, .ref a1, .ref a2, .ref a3, .int 0])), (g0, .inr (10, [.int 0, .ref b1, .ref b2, .ref b3, .ref b4, .ref b1, .int 0, .int 0, .int 0, .int 0, .int 0, .int 0, .int 0, .int 0, .int 0, .int 0, .ref (ad 5), .ref (ad 7), .int 0, .ref b19, .ref b20, .ref b21, .ref b22, .ref b23, .ref b24, .ref b25, .int 0, .int 0, .ref b28, .ref b29, .ref b30, .ref b31, .ref b32, .ref b33, .ref b34, .ref b35, .ref b36, .int 0, .int 0, .long 0, .ref b40, .ref b41, .ref b42, .ref b43, .ref b44, .int 0, .ref b46, .ref b47, .ref b48, .ref b49, .ref b50, .int 0])), (b1, .inl (y1, 120, .inl (fun _ => 0))), (b19, .inl (y19, 10, .inl (fun _ => 0))), (b20, .inl (y20, 10, .inl (fun _ => 0))), (b21, .inl (y21, 10, .inl (fun _ => 0))), (b22, .inl (y22, 10, .inl (fun _ => 0))), (b23, .inl (y23, 10, .inl (fun _ => 0))), (b24, .inl (y24, 4, .inl (fun _ => 0))), (b25, .inl (y25, 10, .inl (fun _ => 0))), (o0, .inl (cO, 1, .inr (.inl (fun _ => 0))))]) (hS : va_S (fun q : Nat => s.heap.size ≤ q) s.heap H locs) {ls : Array Slot} (hl : lv_has ls 7 [(4, .int 0), (3, .ref o0), (2, .ref g0), (1, .ref h0), (0, .ref b)]) (hlt : l.stackTraces = false) : W p l e room_1 s m #[Value.ref b] below meth c H locs 76 3048 (lw_Z below #[Value.ref b] s) (F0 m 385 ls []) := by
  obtain ⟨hx, hb, hr, hml, hown, hts, hX, hbl, hlocks, hgv⟩ := id C0
  have hown : s.vm.findClass RL = some m.cls := hown
  have hA : ∀ q : Nat, s.heap.size ≤ q → (fun q : Nat => s.heap.size ≤ q) q := fun _ h => h
  have hbA : ¬ (fun q : Nat => s.heap.size ≤ q) b := Nat.not_le.mpr hbl
  refine lv_aload_n hx hb dL_law_385 rfl (lv_at hl 3 rfl) ?_
  refine lv_aload_n hx hb dL_law_386 rfl (lv_at hl 4 rfl) ?_
  refine lv_iload hx hb dL_law_387 (lv_at hl 0 rfl) ?_
  refine lv_iconst (v := 1) hx hb dL_law_389 (by decide) ?_
  refine lv_iadd hx hb dL_law_390 ?_
  refine lv_topi (fun y_1 ey_1 => ?_)
  obtain rfl : y_1 = 1 := ey_1.trans (by decide)
  refine va_sld hx hb hX hbl hbA hS (by unfold vp_in; decide) dL_law_391 ?_
  refine lv_aload_n hx hb dL_law_392 rfl (lv_at hl 4 rfl) ?_
  refine lv_iload hx hb dL_law_393 (lv_at hl 0 rfl) ?_
  refine lv_iconst (v := 2) hx hb dL_law_395 (by decide) ?_
  refine lv_iadd hx hb dL_law_396 ?_
  refine lv_topi (fun y_2 ey_2 => ?_)
  obtain rfl : y_2 = 2 := ey_2.trans (by decide)
  refine va_sld hx hb hX hbl hbA hS (by unfold vp_in; decide) dL_law_397 ?_
  have hPc := hP.sub (ws' := [(h0, .inr (9, [.ref jT, .ref jR, .ref e2, .ref jL, .ref jU, .ref jF, .ref e6, .ref jN, .ref jA, .ref e9])), (jF, .inr (2, [.ref f0, .ref f1, .ref f2, .ref f3, .ref f4, .int 0, .int 0, .int 0]))]) [0, 8] rfl
  have hKc := hK.sub (tys' := []) [] rfl
  refine vp_callSi (va_runV (As := [.int (xs (Int32.toNatClampNeg 1)), .int (xs (Int32.toNatClampNeg 2))]) (rest := []) ⟨hx, hb, hml, hown, hts⟩ (c_know9 l dC dI h0 jF (.ref jT : Value) (.ref jR : Value) (.ref e2 : Value) (.ref jL : Value) (.ref jU : Value) (.ref e6 : Value) (.ref jN : Value) (.ref jA : Value) (.ref e9 : Value) (.ref f0 : Value) (.ref f1 : Value) (.ref f2 : Value) (.ref f3 : Value) (.ref f4 : Value) (.int 0 : Value) (.int 0 : Value) (xs (Int32.toNatClampNeg 1)) (xs (Int32.toNatClampNeg 2))) (cwV 2 hts (kG (List.forall_mem_cons.mpr ⟨tw_614, (List.forall_mem_cons.mpr ⟨tw_615, (List.forall_mem_cons.mpr ⟨tw_616, (List.forall_mem_cons.mpr ⟨tw_75, (fun _ h => absurd h List.not_mem_nil)⟩)⟩)⟩)⟩) (by decide +kernel) in_w_c_know9 gw_c_know9) rfl rfl rfl (by decide +kernel) ⟨(Nat.le_of_ble_eq_true rfl), (Nat.le_of_ble_eq_true rfl)⟩) (kR_V kT_blind kT_give (va_recv hKc hPc (ci := 9) (q0 := 0) rfl rfl) hPc hKc) rfl rfl hl.1 rfl (lv_room (Nat.le_of_ble_eq_true rfl)) dL_law_398 ⟨(Nat.le_of_ble_eq_true rfl), (Nat.le_of_ble_eq_true rfl)⟩).run (fun r_3 hw => ?_)
  obtain rfl : r_3 = 0 := hw
  refine lv_aload_n hx hb dL_law_401 rfl (lv_at hl 2 rfl) ?_
  refine lv_aload_n hx hb dL_law_402 rfl (lv_at hl 4 rfl) ?_
  refine lv_iload hx hb dL_law_403 (lv_at hl 0 rfl) ?_
  refine lv_iconst (v := 1) hx hb dL_law_405 (by decide) ?_
  refine lv_iadd hx hb dL_law_406 ?_
  refine lv_topi (fun y_4 ey_4 => ?_)
  obtain rfl : y_4 = 1 := ey_4.trans (by decide)
  refine va_sld hx hb hX hbl hbA hS (by unfold vp_in; decide) dL_law_407 ?_
  refine lv_aload_n hx hb dL_law_408 rfl (lv_at hl 4 rfl) ?_
  refine lv_iload hx hb dL_law_409 (lv_at hl 0 rfl) ?_
  refine lv_iconst (v := 2) hx hb dL_law_411 (by decide) ?_
  refine lv_iadd hx hb dL_law_412 ?_
  refine lv_topi (fun y_5 ey_5 => ?_)
  obtain rfl : y_5 = 2 := ey_5.trans (by decide)
  refine va_sld hx hb hX hbl hbA hS (by unfold vp_in; decide) dL_law_413 ?_
  have hPc := hP.sub (ws' := [(g0, .inr (10, [.int 0, .ref b1, .ref b2, .ref b3, .ref b4, .ref b1, .int 0, .int 0, .int 0, .int 0, .int 0, .int 0, .int 0, .int 0, .int 0, .int 0, .ref (ad 5), .ref (ad 7), .int 0, .ref b19, .ref b20, .ref b21, .ref b22, .ref b23, .ref b24, .ref b25, .int 0, .int 0, .ref b28, .ref b29, .ref b30, .ref b31, .ref b32, .ref b33, .ref b34, .ref b35, .ref b36, .int 0, .int 0, .long 0, .ref b40, .ref b41, .ref b42, .ref b43, .ref b44, .int 0, .ref b46, .ref b47, .ref b48, .ref b49, .ref b50, .int 0]))]) [15] rfl
  have hKc := hK.sub (tys' := []) [] rfl
  have hDc := hD.sub (ws' := [(g0, .inr (10, [.int 0, .ref b1, .ref b2, .ref b3, .ref b4, .ref b1, .int 0, .int 0, .int 0, .int 0, .int 0, .int 0, .int 0, .int 0, .int 0, .int 0, .ref (ad 5), .ref (ad 7), .int 0, .ref b19, .ref b20, .ref b21, .ref b22, .ref b23, .ref b24, .ref b25, .int 0, .int 0, .ref b28, .ref b29, .ref b30, .ref b31, .ref b32, .ref b33, .ref b34, .ref b35, .ref b36, .int 0, .int 0, .long 0, .ref b40, .ref b41, .ref b42, .ref b43, .ref b44, .int 0, .ref b46, .ref b47, .ref b48, .ref b49, .ref b50, .int 0]))]) [15] (by decide) rfl
  have hFc := va_free (wc := [(g0, .inr (10, [.int 0, .ref b1, .ref b2, .ref b3, .ref b4, .ref b1, .int 0, .int 0, .int 0, .int 0, .int 0, .int 0, .int 0, .int 0, .int 0, .int 0, .ref (ad 5), .ref (ad 7), .int 0, .ref b19, .ref b20, .ref b21, .ref b22, .ref b23, .ref b24, .ref b25, .int 0, .int 0, .ref b28, .ref b29, .ref b30, .ref b31, .ref b32, .ref b33, .ref b34, .ref b35, .ref b36, .int 0, .int 0, .long 0, .ref b40, .ref b41, .ref b42, .ref b43, .ref b44, .int 0, .ref b46, .ref b47, .ref b48, .ref b49, .ref b50, .int 0]))]) hD hS hA [15] rfl
  refine va_calli (va_runV (As := [.int (xs (Int32.toNatClampNeg 1)), .int (xs (Int32.toNatClampNeg 2))]) (rest := [.int 0]) ⟨hx, hb, hml, hown, hts⟩ (c_know10 l dC dI g0 (.int 0 : Value) (.ref b1 : Value) (.ref b2 : Value) (.ref b3 : Value) (.ref b4 : Value) (.ref b1 : Value) (.int 0 : Value) (.int 0 : Value) (.int 0 : Value) (.int 0 : Value) (.int 0 : Value) (.int 0 : Value) (.int 0 : Value) (.int 0 : Value) (.int 0 : Value) (.int 0 : Value) (.ref (ad 5) : Value) (.ref (ad 7) : Value) (.int 0 : Value) (.ref b19 : Value) (.ref b20 : Value) (.ref b21 : Value) (.ref b22 : Value) (.ref b23 : Value) (.ref b24 : Value) (.ref b25 : Value) (.int 0 : Value) (.ref b28 : Value) (.ref b29 : Value) (.ref b30 : Value) (.ref b31 : Value) (.ref b32 : Value) (.ref b33 : Value) (.ref b34 : Value) (.ref b35 : Value) (.ref b36 : Value) (.int 0 : Value) (.int 0 : Value) (.long 0 : Value) (.ref b40 : Value) (.ref b41 : Value) (.ref b42 : Value) (.ref b43 : Value) (.ref b44 : Value) (.int 0 : Value) (.ref b46 : Value) (.ref b47 : Value) (.ref b48 : Value) (.ref b49 : Value) (.ref b50 : Value) (.int 0 : Value) (xs (Int32.toNatClampNeg 1)) (xs (Int32.toNatClampNeg 2)) H.size) (cwV 2 hts (kG (List.forall_mem_cons.mpr ⟨tw_1371, (List.forall_mem_cons.mpr ⟨tw_1372, (List.forall_mem_cons.mpr ⟨tw_1373, (List.forall_mem_cons.mpr ⟨tw_85, (fun _ h => absurd h List.not_mem_nil)⟩)⟩)⟩)⟩) (by decide +kernel) in_w_c_know10 gw_c_know10) rfl rfl rfl (by decide +kernel) ⟨(Nat.le_of_ble_eq_true rfl), (Nat.le_of_ble_eq_true rfl)⟩) (kW_V kT_blind kT_give (va_recv hKc hPc (ci := 10) (q0 := 0) rfl rfl) hPc hKc hDc) rfl rfl hl.1 rfl (lv_room (Nat.le_of_ble_eq_true rfl)) dL_law_414 ⟨(Nat.le_of_ble_eq_true rfl), (Nat.le_of_ble_eq_true rfl)⟩) hS (fun q _ h => hFc q h) hFc (fun r_6 u t H1 locs ht hvm hw hB hz1 hk1 hS => ?_)
  have hP1 : va_P (dC, dI) vwCl [] H1 := fun k q h => by simp at h
  have hD1 : va_D (va_A [(g0, .inr (10, [.int 0, .ref b1, .ref b2, .ref b3, .ref b4, .ref b1, .int 0, .int 0, .int 0, .int 0, .int 0, .int 0, .int 0, .int 0, .int 0, .int 0, .ref (ad 5), .ref (ad 7), .int 0, .ref b19, .ref b20, .ref b21, .ref b22, .ref b23, .ref b24, .ref b25, .int 0, .int 0, .ref b28, .ref b29, .ref b30, .ref b31, .ref b32, .ref b33, .ref b34, .ref b35, .ref b36, .int 0, .int 0, .long 0, .ref b40, .ref b41, .ref b42, .ref b43, .ref b44, .int 0, .ref b46, .ref b47, .ref b48, .ref b49, .ref b50, .int 0]))] H.size) [] := ⟨fun i j p q h => by simp at h, fun k q h => by simp at h⟩
  try dsimp only at hw
  obtain ⟨hP, hD⟩ := va_join (wr := [(h0, .inr (9, [.ref jT, .ref jR, .ref e2, .ref jL, .ref jU, .ref jF, .ref e6, .ref jN, .ref jA, .ref e9])), (jT, .inr (8, [.ref t0, .int 0])), (t0, .inl (cC, 120, .inl (fun _ => 0))), (jR, .inr (4, [.ref jT, .ref r1, .ref r2, .int 0, .int 0, .int 0, .ref (ad 0), .ref (ad 0)])), (jL, .inr (7, [.ref l0, .int 0])), (l0, .inl (cL, 6, .inr (.inr (.inr (.inr (fun _ => none)))))), (jU, .inr (7, [.ref m0, .int 0])), (m0, .inl (cM, 8, .inr (.inr (.inr (.inr (fun _ => none)))))), (jF, .inr (2, [.ref f0, .ref f1, .ref f2, .ref f3, .ref f4, .int 0, .int 0, .int 0])), (f0, .inl (z0, 10, .inl (fun _ => 0))), (f1, .inl (z1, 10, .inl (fun _ => 0))), (f2, .inl (z2, 10, .inl (fun _ => 0))), (f4, .inl (z4, 4, .inl (fun _ => 0))), (jN, .inr (3, [.ref n0, .ref n1, .ref n2, .ref n3, .ref n4, .int 0])), (jA, .inr (0, [.ref a0, .ref a1, .ref a2, .ref a3, .int 0])), (b1, .inl (y1, 120, .inl (fun _ => 0))), (b19, .inl (y19, 10, .inl (fun _ => 0))), (b20, .inl (y20, 10, .inl (fun _ => 0))), (b21, .inl (y21, 10, .inl (fun _ => 0))), (b22, .inl (y22, 10, .inl (fun _ => 0))), (b23, .inl (y23, 10, .inl (fun _ => 0))), (b24, .inl (y24, 4, .inl (fun _ => 0))), (b25, .inl (y25, 10, .inl (fun _ => 0))), (o0, .inl (cO, 1, .inr (.inl (fun _ => 0))))]) (w1 := []) hP hD [15] [0, 1, 2, 3, 4, 5, 6, 7, 8, 9, 10, 11, 12, 13, 14, 16, 17, 18, 19, 20, 21, 22, 23, 24] rfl rfl (by decide) (by decide) hk1 hFc hP1 hD1
  generalize H1 = H at hP hS ⊢
  have hP : va_P (dC, dI) vwCl [(h0, .inr (9, [.ref jT, .ref jR, .ref e2, .ref jL, .ref jU, .ref jF, .ref e6, .ref jN, .ref jA, .ref e9])), (jT, .inr (8, [.ref t0, .int 0])), (t0, .inl (cC, 120, .inl (fun _ => 0))), (jR, .inr (4, [.ref jT, .ref r1, .ref r2, .int 0, .int 0, .int 0, .ref (ad 0), .ref (ad 0)])), (jL, .inr (7, [.ref l0, .int 0])), (l0, .inl (cL, 6, .inr (.inr (.inr (.inr (fun _ => none)))))), (jU, .inr (7, [.ref m0, .int 0])), (m0, .inl (cM, 8, .inr (.inr (.inr (.inr (fun _ => none)))))), (jF, .inr (2, [.ref f0, .ref f1, .ref f2, .ref f3, .ref f4, .int 0, .int 0, .int 0])), (f0, .inl (z0, 10, .inl (fun _ => 0))), (f1, .inl (z1, 10, .inl (fun _ => 0))), (f2, .inl (z2, 10, .inl (fun _ => 0))), (f4, .inl (z4, 4, .inl (fun _ => 0))), (jN, .inr (3, [.ref n0, .ref n1, .ref n2, .ref n3, .ref n4, .int 0])), (jA, .inr (0, [.ref a0, .ref a1, .ref a2, .ref a3, .int 0])), (b1, .inl (y1, 120, .inl (fun _ => 0))), (b19, .inl (y19, 10, .inl (fun _ => 0))), (b20, .inl (y20, 10, .inl (fun _ => 0))), (b21, .inl (y21, 10, .inl (fun _ => 0))), (b22, .inl (y22, 10, .inl (fun _ => 0))), (b23, .inl (y23, 10, .inl (fun _ => 0))), (b24, .inl (y24, 4, .inl (fun _ => 0))), (b25, .inl (y25, 10, .inl (fun _ => 0))), (o0, .inl (cO, 1, .inr (.inl (fun _ => 0))))] H := hP
  have hD : va_D (fun q : Nat => s.heap.size ≤ q) [(h0, .inr (9, [.ref jT, .ref jR, .ref e2, .ref jL, .ref jU, .ref jF, .ref e6, .ref jN, .ref jA, .ref e9])), (jT, .inr (8, [.ref t0, .int 0])), (t0, .inl (cC, 120, .inl (fun _ => 0))), (jR, .inr (4, [.ref jT, .ref r1, .ref r2, .int 0, .int 0, .int 0, .ref (ad 0), .ref (ad 0)])), (jL, .inr (7, [.ref l0, .int 0])), (l0, .inl (cL, 6, .inr (.inr (.inr (.inr (fun _ => none)))))), (jU, .inr (7, [.ref m0, .int 0])), (m0, .inl (cM, 8, .inr (.inr (.inr (.inr (fun _ => none)))))), (jF, .inr (2, [.ref f0, .ref f1, .ref f2, .ref f3, .ref f4, .int 0, .int 0, .int 0])), (f0, .inl (z0, 10, .inl (fun _ => 0))), (f1, .inl (z1, 10, .inl (fun _ => 0))), (f2, .inl (z2, 10, .inl (fun _ => 0))), (f4, .inl (z4, 4, .inl (fun _ => 0))), (jN, .inr (3, [.ref n0, .ref n1, .ref n2, .ref n3, .ref n4, .int 0])), (jA, .inr (0, [.ref a0, .ref a1, .ref a2, .ref a3, .int 0])), (b1, .inl (y1, 120, .inl (fun _ => 0))), (b19, .inl (y19, 10, .inl (fun _ => 0))), (b20, .inl (y20, 10, .inl (fun _ => 0))), (b21, .inl (y21, 10, .inl (fun _ => 0))), (b22, .inl (y22, 10, .inl (fun _ => 0))), (b23, .inl (y23, 10, .inl (fun _ => 0))), (b24, .inl (y24, 4, .inl (fun _ => 0))), (b25, .inl (y25, 10, .inl (fun _ => 0))), (o0, .inl (cO, 1, .inr (.inl (fun _ => 0))))] := hD
  obtain rfl : r_6 = 0 := hw
  refine lv_icmp_eq (tgt := 1792) hx hb dL_law_417 (by decide) (fun c_7 => ?_) (fun c_7 => absurd (by decide) c_7)
  exact law_tail C0 hS (Nat.le_of_ble_eq_true rfl) (Nat.le_of_ble_eq_true rfl) (lv_sub hl [0, 1, 2, 3, 4] rfl)

theorem dL_law_422 : decode cL_law 422 = .ok (.aload_n 1, 1) := by decide +kernel
theorem dL_law_423 : decode cL_law 423 = .ok (.aload_n 0, 1) := by decide +kernel
theorem dL_law_424 : decode cL_law 424 = .ok (.iload 4, 2) := by decide +kernel
theorem dL_law_426 : decode cL_law 426 = .ok (.iconst 1, 1) := by decide +kernel
theorem dL_law_427 : decode cL_law 427 = .ok (.iadd, 1) := by decide +kernel
theorem dL_law_428 : decode cL_law 428 = .ok (.iaload, 1) := by decide +kernel
theorem dL_law_429 : decode cL_law 429 = .ok (.invokevirtual 48, 3) := by decide +kernel
theorem dL_law_432 : decode cL_law 432 = .ok (.aload_n 2, 1) := by decide +kernel
theorem dL_law_433 : decode cL_law 433 = .ok (.aload_n 0, 1) := by decide +kernel
theorem dL_law_434 : decode cL_law 434 = .ok (.iload 4, 2) := by decide +kernel
theorem dL_law_436 : decode cL_law 436 = .ok (.iconst 1, 1) := by decide +kernel
theorem dL_law_437 : decode cL_law 437 = .ok (.iadd, 1) := by decide +kernel
theorem dL_law_438 : decode cL_law 438 = .ok (.iaload, 1) := by decide +kernel
theorem dL_law_439 : decode cL_law 439 = .ok (.invokevirtual 51, 3) := by decide +kernel
theorem dL_law_442 : decode cL_law 442 = .ok (.if_icmp .eq 1350, 3) := by decide +kernel
set_option maxHeartbeats 4000000 in
set_option maxRecDepth 100000 in
theorem law_6 {p : Program} {l : Launch} {e : Env} {s : State} {m : MethodId} {below : List Frame} {meth : Method} {c : Code} {b : Nat} {xs : Nat → Int32} {dC : Nat → ClassId} {dI : Nat → Nat → Nat} {ad : Nat → Nat} {h0 : Nat} {g0 : Nat} {o0 : Nat} {jT : Nat} {jR : Nat} {e2 : Nat} {jL : Nat} {jU : Nat} {jF : Nat} {e6 : Nat} {jN : Nat} {jA : Nat} {e9 : Nat} {t0 : Nat} {r1 : Nat} {r2 : Nat} {l0 : Nat} {m0 : Nat} {f0 : Nat} {f1 : Nat} {f2 : Nat} {f3 : Nat} {f4 : Nat} {n0 : Nat} {n1 : Nat} {n2 : Nat} {n3 : Nat} {n4 : Nat} {a0 : Nat} {a1 : Nat} {a2 : Nat} {a3 : Nat} {cC : ClassId} {cL : ClassId} {cM : ClassId} {z0 : ClassId} {z1 : ClassId} {z2 : ClassId} {z4 : ClassId} {b1 : Nat} {b2 : Nat} {b3 : Nat} {b4 : Nat} {b19 : Nat} {b20 : Nat} {b21 : Nat} {b22 : Nat} {b23 : Nat} {b24 : Nat} {b25 : Nat} {b28 : Nat} {b29 : Nat} {b30 : Nat} {b31 : Nat} {b32 : Nat} {b33 : Nat} {b34 : Nat} {b35 : Nat} {b36 : Nat} {b40 : Nat} {b41 : Nat} {b42 : Nat} {b43 : Nat} {b44 : Nat} {b46 : Nat} {b47 : Nat} {b48 : Nat} {b49 : Nat} {b50 : Nat} {y1 : ClassId} {y19 : ClassId} {y20 : ClassId} {y21 : ClassId} {y22 : ClassId} {y23 : ClassId} {y24 : ClassId} {y25 : ClassId} {cO : ClassId} (C0 : lw_At p s m meth c b 7 xs) (hXX : kLaw ad s) {H : Heap} {locs : List Loc} (hK : va_K (dC, dI) vwCl [(cC, .char), (cL, .object RX6), (cM, .object RX6), (z0, .int), (z1, .int), (z2, .int), (z4, .int), (y1, .byte), (y19, .int), (y20, .int), (y21, .int), (y22, .int), (y23, .int), (y24, .int), (y25, .boolean), (cO, .long)] s) (hP : va_P (dC, dI) vwCl [(h0, .inr (9, [.ref jT, .ref jR, .ref e2, .ref jL, .ref jU, .ref jF, .ref e6, .ref jN, .ref jA, .ref e9])), (jT, .inr (8, [.ref t0, .int 0])), (t0, .inl (cC, 120, .inl (fun _ => 0))), (jR, .inr (4, [.ref jT, .ref r1, .ref r2, .int 0, .int 0, .int 0, .ref (ad 0), .ref (ad 0)])), (jL, .inr (7, [.ref l0, .int 0])), (l0, .inl (cL, 6, .inr (.inr (.inr (.inr (fun _ => none)))))), (jU, .inr (7, [.ref m0, .int 0])), (m0, .inl (cM, 8, .inr (.inr (.inr (.inr (fun _ => none)))))), (jF, .inr (2, [.ref f0, .ref f1, .ref f2, .ref f3, .ref f4, .int 0, .int 0, .int 0])), (f0, .inl (z0, 10, .inl (fun _ => 0))), (f1, .inl (z1, 10, .inl (fun _ => 0))), (f2, .inl (z2, 10, .inl (fun _ => 0))), (f4, .inl (z4, 4, .inl (fun _ => 0))), (jN, .inr (3, [.ref n0, .ref n1, .ref n2, .ref n3, .ref n4, .int 0])), (jA, .inr (0, [.ref a0, .ref a1, .ref a2, .ref a3, .int 0])), (g0, .inr (10, [.int 0, .ref b1, .ref b2, .ref b3, .ref b4, .ref b1, .int 0, .int 0, .int 0, .int 0, .int 0, .int 0, .int 0, .int 0, .int 0, .int 0, .ref (ad 5), .ref (ad 7), .int 0, .ref b19, .ref b20, .ref b21, .ref b22, .ref b23, .ref b24, .ref b25, .int 0, .int 0, .ref b28, .ref b29, .ref b30, .ref b31, .ref b32, .ref b33, .ref b34, .ref b35, .ref b36, .int 0, .int 0, .long 0, .ref b40, .ref b41, .ref b42, .ref b43, .ref b44, .int 0, .ref b46, .ref b47, .ref b48, .ref b49, .ref b50, .int 0])), (b1, .inl (y1, 120, .inl (fun _ => 0))), (b19, .inl (y19, 10, .inl (fun _ => 0))), (b20, .inl (y20, 10, .inl (fun _ => 0))), (b21, .inl (y21, 10, .inl (fun _ => 0))), (b22, .inl (y22, 10, .inl (fun _ => 0))), (b23, .inl (y23, 10, .inl (fun _ => 0))), (b24, .inl (y24, 4, .inl (fun _ => 0))), (b25, .inl (y25, 10, .inl (fun _ => 0))), (o0, .inl (cO, 1, .inr (.inl (fun _ => 0))))] H) (hD : va_D (fun q : Nat => s.heap.size ≤ q) [(h0, .inr (9, [.ref jT, .ref jR, .ref e2, .ref jL, .ref jU, .ref jF, .ref e6, .ref jN, .ref jA, .ref e9])), (jT, .inr (8, [.ref t0, .int 0])), (t0, .inl (cC, 120, .inl (fun _ => 0))), (jR, .inr (4, [.ref jT, .ref r1, .ref r2, .int 0, .int 0, .int 0, .ref (ad 0), .ref (ad 0)])), (jL, .inr (7, [.ref l0, .int 0])), (l0, .inl (cL, 6, .inr (.inr (.inr (.inr (fun _ => none)))))), (jU, .inr (7, [.ref m0, .int 0])), (m0, .inl (cM, 8, .inr (.inr (.inr (.inr (fun _ => none)))))), (jF, .inr (2, [.ref f0, .ref f1, .ref f2, .ref f3, .ref f4, .int 0, .int 0, .int 0])), (f0, .inl (z0, 10, .inl (fun _ => 0))), (f1, .inl (z1, 10, .inl (fun _ => 0))), (f2, .inl (z2, 10, .inl (fun _ => 0))), (f4, .inl (z4, 4, .inl (fun _ => 0))), (jN, .inr (3, [.ref n0, .ref n1, .ref n2, .ref n3, .ref n4, .int 0])), (jA, .inr (0, [.ref a0, .ref a1, .ref a2, .ref a3, .int 0])), (g0, .inr (10, [.int 0, .ref b1, .ref b2, .ref b3, .ref b4, .ref b1, .int 0, .int 0, .int 0, .int 0, .int 0, .int 0, .int 0, .int 0, .int 0, .int 0, .ref (ad 5), .ref (ad 7), .int 0, .ref b19, .ref b20, .ref b21, .ref b22, .ref b23, .ref b24, .ref b25, .int 0, .int 0, .ref b28, .ref b29, .ref b30, .ref b31, .ref b32, .ref b33, .ref b34, .ref b35, .ref b36, .int 0, .int 0, .long 0, .ref b40, .ref b41, .ref b42, .ref b43, .ref b44, .int 0, .ref b46, .ref b47, .ref b48, .ref b49, .ref b50, .int 0])), (b1, .inl (y1, 120, .inl (fun _ => 0))), (b19, .inl (y19, 10, .inl (fun _ => 0))), (b20, .inl (y20, 10, .inl (fun _ => 0))), (b21, .inl (y21, 10, .inl (fun _ => 0))), (b22, .inl (y22, 10, .inl (fun _ => 0))), (b23, .inl (y23, 10, .inl (fun _ => 0))), (b24, .inl (y24, 4, .inl (fun _ => 0))), (b25, .inl (y25, 10, .inl (fun _ => 0))), (o0, .inl (cO, 1, .inr (.inl (fun _ => 0))))]) (hS : va_S (fun q : Nat => s.heap.size ≤ q) s.heap H locs) {ls : Array Slot} (hl : lv_has ls 7 [(4, .int 0), (3, .ref o0), (2, .ref g0), (1, .ref h0), (0, .ref b)]) (hlt : l.stackTraces = false) : W p l e room_1 s m #[Value.ref b] below meth c H locs 76 3048 (lw_Z below #[Value.ref b] s) (F0 m 422 ls []) := by
  obtain ⟨hx, hb, hr, hml, hown, hts, hX, hbl, hlocks, hgv⟩ := id C0
  have hown : s.vm.findClass RL = some m.cls := hown
  have hA : ∀ q : Nat, s.heap.size ≤ q → (fun q : Nat => s.heap.size ≤ q) q := fun _ h => h
  have hbA : ¬ (fun q : Nat => s.heap.size ≤ q) b := Nat.not_le.mpr hbl
  refine lv_aload_n hx hb dL_law_422 rfl (lv_at hl 3 rfl) ?_
  refine lv_aload_n hx hb dL_law_423 rfl (lv_at hl 4 rfl) ?_
  refine lv_iload hx hb dL_law_424 (lv_at hl 0 rfl) ?_
  refine lv_iconst (v := 1) hx hb dL_law_426 (by decide) ?_
  refine lv_iadd hx hb dL_law_427 ?_
  refine lv_topi (fun y_1 ey_1 => ?_)
  obtain rfl : y_1 = 1 := ey_1.trans (by decide)
  refine va_sld hx hb hX hbl hbA hS (by unfold vp_in; decide) dL_law_428 ?_
  have hPc := hP.sub (ws' := [(h0, .inr (9, [.ref jT, .ref jR, .ref e2, .ref jL, .ref jU, .ref jF, .ref e6, .ref jN, .ref jA, .ref e9])), (jF, .inr (2, [.ref f0, .ref f1, .ref f2, .ref f3, .ref f4, .int 0, .int 0, .int 0])), (f4, .inl (z4, 4, .inl (fun _ => 0)))]) [0, 8, 12] rfl
  have hKc := hK.sub (tys' := [(z4, .int)]) [6] rfl
  have hDc := hD.sub (ws' := [(h0, .inr (9, [.ref jT, .ref jR, .ref e2, .ref jL, .ref jU, .ref jF, .ref e6, .ref jN, .ref jA, .ref e9])), (jF, .inr (2, [.ref f0, .ref f1, .ref f2, .ref f3, .ref f4, .int 0, .int 0, .int 0])), (f4, .inl (z4, 4, .inl (fun _ => 0)))]) [0, 8, 12] (by decide) rfl
  have hFc := va_free (wc := [(h0, .inr (9, [.ref jT, .ref jR, .ref e2, .ref jL, .ref jU, .ref jF, .ref e6, .ref jN, .ref jA, .ref e9])), (jF, .inr (2, [.ref f0, .ref f1, .ref f2, .ref f3, .ref f4, .int 0, .int 0, .int 0])), (f4, .inl (z4, 4, .inl (fun _ => 0)))]) hD hS hA [0, 8, 12] rfl
  refine va_calli (va_runV (As := [.int (xs (Int32.toNatClampNeg 1))]) (rest := []) ⟨hx, hb, hml, hown, hts⟩ (c_word9 l dC dI h0 jF f4 z4 (fun _ => 0) (.ref jT : Value) (.ref jR : Value) (.ref e2 : Value) (.ref jL : Value) (.ref jU : Value) (.ref e6 : Value) (.ref jN : Value) (.ref jA : Value) (.ref e9 : Value) (.ref f0 : Value) (.ref f1 : Value) (.ref f2 : Value) (.ref f3 : Value) (.int 0 : Value) (.int 0 : Value) (xs (Int32.toNatClampNeg 1)) H.size) (cwV 1 hts (kG (List.forall_mem_cons.mpr ⟨tw_627, (List.forall_mem_cons.mpr ⟨tw_628, (List.forall_mem_cons.mpr ⟨tw_629, (List.forall_mem_cons.mpr ⟨tw_75, (fun _ h => absurd h List.not_mem_nil)⟩)⟩)⟩)⟩) (by decide +kernel) in_w_c_word9 gw_c_word9) rfl rfl rfl (by decide +kernel) ⟨(Nat.le_of_ble_eq_true rfl), (Nat.le_of_ble_eq_true rfl)⟩) (kW_V kT_blind kT_give (va_recv hKc hPc (ci := 9) (q0 := 0) rfl rfl) hPc hKc hDc) rfl rfl hl.1 rfl (lv_room (Nat.le_of_ble_eq_true rfl)) dL_law_429 ⟨(Nat.le_of_ble_eq_true rfl), (Nat.le_of_ble_eq_true rfl)⟩) hS (fun q _ h => hFc q h) hFc (fun r_2 u t H1 locs ht hvm hw hB hz1 hk1 hS => ?_)
  have hP1 : va_P (dC, dI) vwCl [] H1 := fun k q h => by simp at h
  have hD1 : va_D (va_A [(h0, .inr (9, [.ref jT, .ref jR, .ref e2, .ref jL, .ref jU, .ref jF, .ref e6, .ref jN, .ref jA, .ref e9])), (jF, .inr (2, [.ref f0, .ref f1, .ref f2, .ref f3, .ref f4, .int 0, .int 0, .int 0])), (f4, .inl (z4, 4, .inl (fun _ => 0)))] H.size) [] := ⟨fun i j p q h => by simp at h, fun k q h => by simp at h⟩
  try dsimp only at hw
  obtain ⟨hP, hD⟩ := va_join (wr := [(jT, .inr (8, [.ref t0, .int 0])), (t0, .inl (cC, 120, .inl (fun _ => 0))), (jR, .inr (4, [.ref jT, .ref r1, .ref r2, .int 0, .int 0, .int 0, .ref (ad 0), .ref (ad 0)])), (jL, .inr (7, [.ref l0, .int 0])), (l0, .inl (cL, 6, .inr (.inr (.inr (.inr (fun _ => none)))))), (jU, .inr (7, [.ref m0, .int 0])), (m0, .inl (cM, 8, .inr (.inr (.inr (.inr (fun _ => none)))))), (f0, .inl (z0, 10, .inl (fun _ => 0))), (f1, .inl (z1, 10, .inl (fun _ => 0))), (f2, .inl (z2, 10, .inl (fun _ => 0))), (jN, .inr (3, [.ref n0, .ref n1, .ref n2, .ref n3, .ref n4, .int 0])), (jA, .inr (0, [.ref a0, .ref a1, .ref a2, .ref a3, .int 0])), (g0, .inr (10, [.int 0, .ref b1, .ref b2, .ref b3, .ref b4, .ref b1, .int 0, .int 0, .int 0, .int 0, .int 0, .int 0, .int 0, .int 0, .int 0, .int 0, .ref (ad 5), .ref (ad 7), .int 0, .ref b19, .ref b20, .ref b21, .ref b22, .ref b23, .ref b24, .ref b25, .int 0, .int 0, .ref b28, .ref b29, .ref b30, .ref b31, .ref b32, .ref b33, .ref b34, .ref b35, .ref b36, .int 0, .int 0, .long 0, .ref b40, .ref b41, .ref b42, .ref b43, .ref b44, .int 0, .ref b46, .ref b47, .ref b48, .ref b49, .ref b50, .int 0])), (b1, .inl (y1, 120, .inl (fun _ => 0))), (b19, .inl (y19, 10, .inl (fun _ => 0))), (b20, .inl (y20, 10, .inl (fun _ => 0))), (b21, .inl (y21, 10, .inl (fun _ => 0))), (b22, .inl (y22, 10, .inl (fun _ => 0))), (b23, .inl (y23, 10, .inl (fun _ => 0))), (b24, .inl (y24, 4, .inl (fun _ => 0))), (b25, .inl (y25, 10, .inl (fun _ => 0))), (o0, .inl (cO, 1, .inr (.inl (fun _ => 0))))]) (w1 := []) hP hD [0, 8, 12] [1, 2, 3, 4, 5, 6, 7, 9, 10, 11, 13, 14, 15, 16, 17, 18, 19, 20, 21, 22, 23, 24] rfl rfl (by decide) (by decide) hk1 hFc hP1 hD1
  generalize H1 = H at hP hS ⊢
  have hP : va_P (dC, dI) vwCl [(jT, .inr (8, [.ref t0, .int 0])), (t0, .inl (cC, 120, .inl (fun _ => 0))), (jR, .inr (4, [.ref jT, .ref r1, .ref r2, .int 0, .int 0, .int 0, .ref (ad 0), .ref (ad 0)])), (jL, .inr (7, [.ref l0, .int 0])), (l0, .inl (cL, 6, .inr (.inr (.inr (.inr (fun _ => none)))))), (jU, .inr (7, [.ref m0, .int 0])), (m0, .inl (cM, 8, .inr (.inr (.inr (.inr (fun _ => none)))))), (f0, .inl (z0, 10, .inl (fun _ => 0))), (f1, .inl (z1, 10, .inl (fun _ => 0))), (f2, .inl (z2, 10, .inl (fun _ => 0))), (jN, .inr (3, [.ref n0, .ref n1, .ref n2, .ref n3, .ref n4, .int 0])), (jA, .inr (0, [.ref a0, .ref a1, .ref a2, .ref a3, .int 0])), (g0, .inr (10, [.int 0, .ref b1, .ref b2, .ref b3, .ref b4, .ref b1, .int 0, .int 0, .int 0, .int 0, .int 0, .int 0, .int 0, .int 0, .int 0, .int 0, .ref (ad 5), .ref (ad 7), .int 0, .ref b19, .ref b20, .ref b21, .ref b22, .ref b23, .ref b24, .ref b25, .int 0, .int 0, .ref b28, .ref b29, .ref b30, .ref b31, .ref b32, .ref b33, .ref b34, .ref b35, .ref b36, .int 0, .int 0, .long 0, .ref b40, .ref b41, .ref b42, .ref b43, .ref b44, .int 0, .ref b46, .ref b47, .ref b48, .ref b49, .ref b50, .int 0])), (b1, .inl (y1, 120, .inl (fun _ => 0))), (b19, .inl (y19, 10, .inl (fun _ => 0))), (b20, .inl (y20, 10, .inl (fun _ => 0))), (b21, .inl (y21, 10, .inl (fun _ => 0))), (b22, .inl (y22, 10, .inl (fun _ => 0))), (b23, .inl (y23, 10, .inl (fun _ => 0))), (b24, .inl (y24, 4, .inl (fun _ => 0))), (b25, .inl (y25, 10, .inl (fun _ => 0))), (o0, .inl (cO, 1, .inr (.inl (fun _ => 0))))] H := hP
  have hD : va_D (fun q : Nat => s.heap.size ≤ q) [(jT, .inr (8, [.ref t0, .int 0])), (t0, .inl (cC, 120, .inl (fun _ => 0))), (jR, .inr (4, [.ref jT, .ref r1, .ref r2, .int 0, .int 0, .int 0, .ref (ad 0), .ref (ad 0)])), (jL, .inr (7, [.ref l0, .int 0])), (l0, .inl (cL, 6, .inr (.inr (.inr (.inr (fun _ => none)))))), (jU, .inr (7, [.ref m0, .int 0])), (m0, .inl (cM, 8, .inr (.inr (.inr (.inr (fun _ => none)))))), (f0, .inl (z0, 10, .inl (fun _ => 0))), (f1, .inl (z1, 10, .inl (fun _ => 0))), (f2, .inl (z2, 10, .inl (fun _ => 0))), (jN, .inr (3, [.ref n0, .ref n1, .ref n2, .ref n3, .ref n4, .int 0])), (jA, .inr (0, [.ref a0, .ref a1, .ref a2, .ref a3, .int 0])), (g0, .inr (10, [.int 0, .ref b1, .ref b2, .ref b3, .ref b4, .ref b1, .int 0, .int 0, .int 0, .int 0, .int 0, .int 0, .int 0, .int 0, .int 0, .int 0, .ref (ad 5), .ref (ad 7), .int 0, .ref b19, .ref b20, .ref b21, .ref b22, .ref b23, .ref b24, .ref b25, .int 0, .int 0, .ref b28, .ref b29, .ref b30, .ref b31, .ref b32, .ref b33, .ref b34, .ref b35, .ref b36, .int 0, .int 0, .long 0, .ref b40, .ref b41, .ref b42, .ref b43, .ref b44, .int 0, .ref b46, .ref b47, .ref b48, .ref b49, .ref b50, .int 0])), (b1, .inl (y1, 120, .inl (fun _ => 0))), (b19, .inl (y19, 10, .inl (fun _ => 0))), (b20, .inl (y20, 10, .inl (fun _ => 0))), (b21, .inl (y21, 10, .inl (fun _ => 0))), (b22, .inl (y22, 10, .inl (fun _ => 0))), (b23, .inl (y23, 10, .inl (fun _ => 0))), (b24, .inl (y24, 4, .inl (fun _ => 0))), (b25, .inl (y25, 10, .inl (fun _ => 0))), (o0, .inl (cO, 1, .inr (.inl (fun _ => 0))))] := hD
  have hw_3 := hw
  refine lv_aload_n hx hb dL_law_432 rfl (lv_at hl 2 rfl) ?_
  refine lv_aload_n hx hb dL_law_433 rfl (lv_at hl 4 rfl) ?_
  refine lv_iload hx hb dL_law_434 (lv_at hl 0 rfl) ?_
  refine lv_iconst (v := 1) hx hb dL_law_436 (by decide) ?_
  refine lv_iadd hx hb dL_law_437 ?_
  refine lv_topi (fun y_4 ey_4 => ?_)
  obtain rfl : y_4 = 1 := ey_4.trans (by decide)
  refine va_sld hx hb hX hbl hbA hS (by unfold vp_in; decide) dL_law_438 ?_
  have hPc := hP.sub (ws' := [(g0, .inr (10, [.int 0, .ref b1, .ref b2, .ref b3, .ref b4, .ref b1, .int 0, .int 0, .int 0, .int 0, .int 0, .int 0, .int 0, .int 0, .int 0, .int 0, .ref (ad 5), .ref (ad 7), .int 0, .ref b19, .ref b20, .ref b21, .ref b22, .ref b23, .ref b24, .ref b25, .int 0, .int 0, .ref b28, .ref b29, .ref b30, .ref b31, .ref b32, .ref b33, .ref b34, .ref b35, .ref b36, .int 0, .int 0, .long 0, .ref b40, .ref b41, .ref b42, .ref b43, .ref b44, .int 0, .ref b46, .ref b47, .ref b48, .ref b49, .ref b50, .int 0])), (b24, .inl (y24, 4, .inl (fun _ => 0)))]) [12, 19] rfl
  have hKc := hK.sub (tys' := [(y24, .int)]) [13] rfl
  have hDc := hD.sub (ws' := [(g0, .inr (10, [.int 0, .ref b1, .ref b2, .ref b3, .ref b4, .ref b1, .int 0, .int 0, .int 0, .int 0, .int 0, .int 0, .int 0, .int 0, .int 0, .int 0, .ref (ad 5), .ref (ad 7), .int 0, .ref b19, .ref b20, .ref b21, .ref b22, .ref b23, .ref b24, .ref b25, .int 0, .int 0, .ref b28, .ref b29, .ref b30, .ref b31, .ref b32, .ref b33, .ref b34, .ref b35, .ref b36, .int 0, .int 0, .long 0, .ref b40, .ref b41, .ref b42, .ref b43, .ref b44, .int 0, .ref b46, .ref b47, .ref b48, .ref b49, .ref b50, .int 0])), (b24, .inl (y24, 4, .inl (fun _ => 0)))]) [12, 19] (by decide) rfl
  have hFc := va_free (wc := [(g0, .inr (10, [.int 0, .ref b1, .ref b2, .ref b3, .ref b4, .ref b1, .int 0, .int 0, .int 0, .int 0, .int 0, .int 0, .int 0, .int 0, .int 0, .int 0, .ref (ad 5), .ref (ad 7), .int 0, .ref b19, .ref b20, .ref b21, .ref b22, .ref b23, .ref b24, .ref b25, .int 0, .int 0, .ref b28, .ref b29, .ref b30, .ref b31, .ref b32, .ref b33, .ref b34, .ref b35, .ref b36, .int 0, .int 0, .long 0, .ref b40, .ref b41, .ref b42, .ref b43, .ref b44, .int 0, .ref b46, .ref b47, .ref b48, .ref b49, .ref b50, .int 0])), (b24, .inl (y24, 4, .inl (fun _ => 0)))]) hD hS hA [12, 19] rfl
  refine va_calli (va_runV (As := [.int (xs (Int32.toNatClampNeg 1))]) (rest := [.int r_2]) ⟨hx, hb, hml, hown, hts⟩ (c_word10 l dC dI g0 b24 y24 (fun _ => 0) (.int 0 : Value) (.ref b1 : Value) (.ref b2 : Value) (.ref b3 : Value) (.ref b4 : Value) (.ref b1 : Value) (.int 0 : Value) (.int 0 : Value) (.int 0 : Value) (.int 0 : Value) (.int 0 : Value) (.int 0 : Value) (.int 0 : Value) (.int 0 : Value) (.int 0 : Value) (.int 0 : Value) (.ref (ad 5) : Value) (.ref (ad 7) : Value) (.int 0 : Value) (.ref b19 : Value) (.ref b20 : Value) (.ref b21 : Value) (.ref b22 : Value) (.ref b23 : Value) (.ref b25 : Value) (.int 0 : Value) (.ref b28 : Value) (.ref b29 : Value) (.ref b30 : Value) (.ref b31 : Value) (.ref b32 : Value) (.ref b33 : Value) (.ref b34 : Value) (.ref b35 : Value) (.ref b36 : Value) (.int 0 : Value) (.int 0 : Value) (.long 0 : Value) (.ref b40 : Value) (.ref b41 : Value) (.ref b42 : Value) (.ref b43 : Value) (.ref b44 : Value) (.int 0 : Value) (.ref b46 : Value) (.ref b47 : Value) (.ref b48 : Value) (.ref b49 : Value) (.ref b50 : Value) (.int 0 : Value) (xs (Int32.toNatClampNeg 1)) H.size) (cwV 1 hts (kG (List.forall_mem_cons.mpr ⟨tw_1379, (List.forall_mem_cons.mpr ⟨tw_1380, (List.forall_mem_cons.mpr ⟨tw_1381, (List.forall_mem_cons.mpr ⟨tw_85, (fun _ h => absurd h List.not_mem_nil)⟩)⟩)⟩)⟩) (by decide +kernel) in_w_c_word10 gw_c_word10) rfl rfl rfl (by decide +kernel) ⟨(Nat.le_of_ble_eq_true rfl), (Nat.le_of_ble_eq_true rfl)⟩) (kW_V kT_blind kT_give (va_recv hKc hPc (ci := 10) (q0 := 0) rfl rfl) hPc hKc hDc) rfl rfl hl.1 rfl (lv_room (Nat.le_of_ble_eq_true rfl)) dL_law_439 ⟨(Nat.le_of_ble_eq_true rfl), (Nat.le_of_ble_eq_true rfl)⟩) hS (fun q _ h => hFc q h) hFc (fun r_5 u t H1 locs ht hvm hw hB hz1 hk1 hS => ?_)
  have hP1 : va_P (dC, dI) vwCl [] H1 := fun k q h => by simp at h
  have hD1 : va_D (va_A [(g0, .inr (10, [.int 0, .ref b1, .ref b2, .ref b3, .ref b4, .ref b1, .int 0, .int 0, .int 0, .int 0, .int 0, .int 0, .int 0, .int 0, .int 0, .int 0, .ref (ad 5), .ref (ad 7), .int 0, .ref b19, .ref b20, .ref b21, .ref b22, .ref b23, .ref b24, .ref b25, .int 0, .int 0, .ref b28, .ref b29, .ref b30, .ref b31, .ref b32, .ref b33, .ref b34, .ref b35, .ref b36, .int 0, .int 0, .long 0, .ref b40, .ref b41, .ref b42, .ref b43, .ref b44, .int 0, .ref b46, .ref b47, .ref b48, .ref b49, .ref b50, .int 0])), (b24, .inl (y24, 4, .inl (fun _ => 0)))] H.size) [] := ⟨fun i j p q h => by simp at h, fun k q h => by simp at h⟩
  try dsimp only at hw
  obtain ⟨hP, hD⟩ := va_join (wr := [(jT, .inr (8, [.ref t0, .int 0])), (t0, .inl (cC, 120, .inl (fun _ => 0))), (jR, .inr (4, [.ref jT, .ref r1, .ref r2, .int 0, .int 0, .int 0, .ref (ad 0), .ref (ad 0)])), (jL, .inr (7, [.ref l0, .int 0])), (l0, .inl (cL, 6, .inr (.inr (.inr (.inr (fun _ => none)))))), (jU, .inr (7, [.ref m0, .int 0])), (m0, .inl (cM, 8, .inr (.inr (.inr (.inr (fun _ => none)))))), (f0, .inl (z0, 10, .inl (fun _ => 0))), (f1, .inl (z1, 10, .inl (fun _ => 0))), (f2, .inl (z2, 10, .inl (fun _ => 0))), (jN, .inr (3, [.ref n0, .ref n1, .ref n2, .ref n3, .ref n4, .int 0])), (jA, .inr (0, [.ref a0, .ref a1, .ref a2, .ref a3, .int 0])), (b1, .inl (y1, 120, .inl (fun _ => 0))), (b19, .inl (y19, 10, .inl (fun _ => 0))), (b20, .inl (y20, 10, .inl (fun _ => 0))), (b21, .inl (y21, 10, .inl (fun _ => 0))), (b22, .inl (y22, 10, .inl (fun _ => 0))), (b23, .inl (y23, 10, .inl (fun _ => 0))), (b25, .inl (y25, 10, .inl (fun _ => 0))), (o0, .inl (cO, 1, .inr (.inl (fun _ => 0))))]) (w1 := []) hP hD [12, 19] [0, 1, 2, 3, 4, 5, 6, 7, 8, 9, 10, 11, 13, 14, 15, 16, 17, 18, 20, 21] rfl rfl (by decide) (by decide) hk1 hFc hP1 hD1
  generalize H1 = H at hP hS ⊢
  have hP : va_P (dC, dI) vwCl [(jT, .inr (8, [.ref t0, .int 0])), (t0, .inl (cC, 120, .inl (fun _ => 0))), (jR, .inr (4, [.ref jT, .ref r1, .ref r2, .int 0, .int 0, .int 0, .ref (ad 0), .ref (ad 0)])), (jL, .inr (7, [.ref l0, .int 0])), (l0, .inl (cL, 6, .inr (.inr (.inr (.inr (fun _ => none)))))), (jU, .inr (7, [.ref m0, .int 0])), (m0, .inl (cM, 8, .inr (.inr (.inr (.inr (fun _ => none)))))), (f0, .inl (z0, 10, .inl (fun _ => 0))), (f1, .inl (z1, 10, .inl (fun _ => 0))), (f2, .inl (z2, 10, .inl (fun _ => 0))), (jN, .inr (3, [.ref n0, .ref n1, .ref n2, .ref n3, .ref n4, .int 0])), (jA, .inr (0, [.ref a0, .ref a1, .ref a2, .ref a3, .int 0])), (b1, .inl (y1, 120, .inl (fun _ => 0))), (b19, .inl (y19, 10, .inl (fun _ => 0))), (b20, .inl (y20, 10, .inl (fun _ => 0))), (b21, .inl (y21, 10, .inl (fun _ => 0))), (b22, .inl (y22, 10, .inl (fun _ => 0))), (b23, .inl (y23, 10, .inl (fun _ => 0))), (b25, .inl (y25, 10, .inl (fun _ => 0))), (o0, .inl (cO, 1, .inr (.inl (fun _ => 0))))] H := hP
  have hD : va_D (fun q : Nat => s.heap.size ≤ q) [(jT, .inr (8, [.ref t0, .int 0])), (t0, .inl (cC, 120, .inl (fun _ => 0))), (jR, .inr (4, [.ref jT, .ref r1, .ref r2, .int 0, .int 0, .int 0, .ref (ad 0), .ref (ad 0)])), (jL, .inr (7, [.ref l0, .int 0])), (l0, .inl (cL, 6, .inr (.inr (.inr (.inr (fun _ => none)))))), (jU, .inr (7, [.ref m0, .int 0])), (m0, .inl (cM, 8, .inr (.inr (.inr (.inr (fun _ => none)))))), (f0, .inl (z0, 10, .inl (fun _ => 0))), (f1, .inl (z1, 10, .inl (fun _ => 0))), (f2, .inl (z2, 10, .inl (fun _ => 0))), (jN, .inr (3, [.ref n0, .ref n1, .ref n2, .ref n3, .ref n4, .int 0])), (jA, .inr (0, [.ref a0, .ref a1, .ref a2, .ref a3, .int 0])), (b1, .inl (y1, 120, .inl (fun _ => 0))), (b19, .inl (y19, 10, .inl (fun _ => 0))), (b20, .inl (y20, 10, .inl (fun _ => 0))), (b21, .inl (y21, 10, .inl (fun _ => 0))), (b22, .inl (y22, 10, .inl (fun _ => 0))), (b23, .inl (y23, 10, .inl (fun _ => 0))), (b25, .inl (y25, 10, .inl (fun _ => 0))), (o0, .inl (cO, 1, .inr (.inl (fun _ => 0))))] := hD
  have hw_6 := hw
  refine lv_icmp_eq (tgt := 1792) hx hb dL_law_442 (by decide) (fun c_7 => ?_) (fun c_7 => absurd (hw_3.trans hw_6.symm) c_7)
  exact law_tail C0 hS (Nat.le_of_ble_eq_true rfl) (Nat.le_of_ble_eq_true rfl) (lv_sub hl [0, 1, 2, 3, 4] rfl)

theorem dL_law_447 : decode cL_law 447 = .ok (.aload_n 1, 1) := by decide +kernel
theorem dL_law_448 : decode cL_law 448 = .ok (.aload_n 0, 1) := by decide +kernel
theorem dL_law_449 : decode cL_law 449 = .ok (.iload 4, 2) := by decide +kernel
theorem dL_law_451 : decode cL_law 451 = .ok (.iconst 1, 1) := by decide +kernel
theorem dL_law_452 : decode cL_law 452 = .ok (.iadd, 1) := by decide +kernel
theorem dL_law_453 : decode cL_law 453 = .ok (.iaload, 1) := by decide +kernel
theorem dL_law_454 : decode cL_law 454 = .ok (.aload_n 0, 1) := by decide +kernel
theorem dL_law_455 : decode cL_law 455 = .ok (.iload 4, 2) := by decide +kernel
theorem dL_law_457 : decode cL_law 457 = .ok (.iconst 2, 1) := by decide +kernel
theorem dL_law_458 : decode cL_law 458 = .ok (.iadd, 1) := by decide +kernel
theorem dL_law_459 : decode cL_law 459 = .ok (.iaload, 1) := by decide +kernel
theorem dL_law_460 : decode cL_law 460 = .ok (.aload_n 0, 1) := by decide +kernel
theorem dL_law_461 : decode cL_law 461 = .ok (.iload 4, 2) := by decide +kernel
theorem dL_law_463 : decode cL_law 463 = .ok (.iconst 3, 1) := by decide +kernel
theorem dL_law_464 : decode cL_law 464 = .ok (.iadd, 1) := by decide +kernel
theorem dL_law_465 : decode cL_law 465 = .ok (.iaload, 1) := by decide +kernel
theorem dL_law_466 : decode cL_law 466 = .ok (.aload_n 3, 1) := by decide +kernel
theorem dL_law_467 : decode cL_law 467 = .ok (.invokestatic 52, 3) := by decide +kernel
theorem dL_law_470 : decode cL_law 470 = .ok (.istore 5, 2) := by decide +kernel
theorem dL_law_472 : decode cL_law 472 = .ok (.aload_n 2, 1) := by decide +kernel
theorem dL_law_473 : decode cL_law 473 = .ok (.aload_n 0, 1) := by decide +kernel
theorem dL_law_474 : decode cL_law 474 = .ok (.iload 4, 2) := by decide +kernel
theorem dL_law_476 : decode cL_law 476 = .ok (.iconst 1, 1) := by decide +kernel
theorem dL_law_477 : decode cL_law 477 = .ok (.iadd, 1) := by decide +kernel
theorem dL_law_478 : decode cL_law 478 = .ok (.iaload, 1) := by decide +kernel
theorem dL_law_479 : decode cL_law 479 = .ok (.aload_n 0, 1) := by decide +kernel
theorem dL_law_480 : decode cL_law 480 = .ok (.iload 4, 2) := by decide +kernel
theorem dL_law_482 : decode cL_law 482 = .ok (.iconst 2, 1) := by decide +kernel
theorem dL_law_483 : decode cL_law 483 = .ok (.iadd, 1) := by decide +kernel
theorem dL_law_484 : decode cL_law 484 = .ok (.iaload, 1) := by decide +kernel
theorem dL_law_485 : decode cL_law 485 = .ok (.aload_n 0, 1) := by decide +kernel
theorem dL_law_486 : decode cL_law 486 = .ok (.iload 4, 2) := by decide +kernel
theorem dL_law_488 : decode cL_law 488 = .ok (.iconst 3, 1) := by decide +kernel
theorem dL_law_489 : decode cL_law 489 = .ok (.iadd, 1) := by decide +kernel
theorem dL_law_490 : decode cL_law 490 = .ok (.iaload, 1) := by decide +kernel
theorem dL_law_491 : decode cL_law 491 = .ok (.invokevirtual 57, 3) := by decide +kernel
theorem dL_law_494 : decode cL_law 494 = .ok (.istore 6, 2) := by decide +kernel
theorem dL_law_496 : decode cL_law 496 = .ok (.aload_n 2, 1) := by decide +kernel
theorem dL_law_497 : decode cL_law 497 = .ok (.invokevirtual 58, 3) := by decide +kernel
theorem dL_law_500 : decode cL_law 500 = .ok (.iload 5, 2) := by decide +kernel
theorem dL_law_502 : decode cL_law 502 = .ok (.if_icmp .eq 5, 3) := by decide +kernel
theorem dL_law_507 : decode cL_law 507 = .ok (.iload 5, 2) := by decide +kernel
theorem dL_law_509 : decode cL_law 509 = .ok (.ifCond .ne 15, 3) := by decide +kernel
theorem dL_law_524 : decode cL_law 524 = .ok (.goto 1268, 3) := by decide +kernel
set_option maxHeartbeats 4000000 in
set_option maxRecDepth 100000 in
theorem law_7 {p : Program} {l : Launch} {e : Env} {s : State} {m : MethodId} {below : List Frame} {meth : Method} {c : Code} {b : Nat} {xs : Nat → Int32} {dC : Nat → ClassId} {dI : Nat → Nat → Nat} {ad : Nat → Nat} {h0 : Nat} {g0 : Nat} {o0 : Nat} {jT : Nat} {jR : Nat} {e2 : Nat} {jL : Nat} {jU : Nat} {jF : Nat} {e6 : Nat} {jN : Nat} {jA : Nat} {e9 : Nat} {t0 : Nat} {r1 : Nat} {r2 : Nat} {l0 : Nat} {m0 : Nat} {f0 : Nat} {f1 : Nat} {f2 : Nat} {f3 : Nat} {f4 : Nat} {n0 : Nat} {n1 : Nat} {n2 : Nat} {n3 : Nat} {n4 : Nat} {a0 : Nat} {a1 : Nat} {a2 : Nat} {a3 : Nat} {cC : ClassId} {cL : ClassId} {cM : ClassId} {z0 : ClassId} {z1 : ClassId} {z2 : ClassId} {z4 : ClassId} {b1 : Nat} {b2 : Nat} {b3 : Nat} {b4 : Nat} {b19 : Nat} {b20 : Nat} {b21 : Nat} {b22 : Nat} {b23 : Nat} {b24 : Nat} {b25 : Nat} {b28 : Nat} {b29 : Nat} {b30 : Nat} {b31 : Nat} {b32 : Nat} {b33 : Nat} {b34 : Nat} {b35 : Nat} {b36 : Nat} {b40 : Nat} {b41 : Nat} {b42 : Nat} {b43 : Nat} {b44 : Nat} {b46 : Nat} {b47 : Nat} {b48 : Nat} {b49 : Nat} {b50 : Nat} {y1 : ClassId} {y19 : ClassId} {y20 : ClassId} {y21 : ClassId} {y22 : ClassId} {y23 : ClassId} {y24 : ClassId} {y25 : ClassId} {cO : ClassId} (C0 : lw_At p s m meth c b 7 xs) (hXX : kLaw ad s) {H : Heap} {locs : List Loc} (hK : va_K (dC, dI) vwCl [(cC, .char), (cL, .object RX6), (cM, .object RX6), (z0, .int), (z1, .int), (z2, .int), (z4, .int), (y1, .byte), (y19, .int), (y20, .int), (y21, .int), (y22, .int), (y23, .int), (y24, .int), (y25, .boolean), (cO, .long)] s) (hP : va_P (dC, dI) vwCl [(h0, .inr (9, [.ref jT, .ref jR, .ref e2, .ref jL, .ref jU, .ref jF, .ref e6, .ref jN, .ref jA, .ref e9])), (jT, .inr (8, [.ref t0, .int 0])), (t0, .inl (cC, 120, .inl (fun _ => 0))), (jR, .inr (4, [.ref jT, .ref r1, .ref r2, .int 0, .int 0, .int 0, .ref (ad 0), .ref (ad 0)])), (jL, .inr (7, [.ref l0, .int 0])), (l0, .inl (cL, 6, .inr (.inr (.inr (.inr (fun _ => none)))))), (jU, .inr (7, [.ref m0, .int 0])), (m0, .inl (cM, 8, .inr (.inr (.inr (.inr (fun _ => none)))))), (jF, .inr (2, [.ref f0, .ref f1, .ref f2, .ref f3, .ref f4, .int 0, .int 0, .int 0])), (f0, .inl (z0, 10, .inl (fun _ => 0))), (f1, .inl (z1, 10, .inl (fun _ => 0))), (f2, .inl (z2, 10, .inl (fun _ => 0))), (f4, .inl (z4, 4, .inl (fun _ => 0))), (jN, .inr (3, [.ref n0, .ref n1, .ref n2, .ref n3, .ref n4, .int 0])), (jA, .inr (0, [.ref a0, .ref a1, .ref a2, .ref a3, .int 0])), (g0, .inr (10, [.int 0, .ref b1, .ref b2, .ref b3, .ref b4, .ref b1, .int 0, .int 0, .int 0, .int 0, .int 0, .int 0, .int 0, .int 0, .int 0, .int 0, .ref (ad 5), .ref (ad 7), .int 0, .ref b19, .ref b20, .ref b21, .ref b22, .ref b23, .ref b24, .ref b25, .int 0, .int 0, .ref b28, .ref b29, .ref b30, .ref b31, .ref b32, .ref b33, .ref b34, .ref b35, .ref b36, .int 0, .int 0, .long 0, .ref b40, .ref b41, .ref b42, .ref b43, .ref b44, .int 0, .ref b46, .ref b47, .ref b48, .ref b49, .ref b50, .int 0])), (b1, .inl (y1, 120, .inl (fun _ => 0))), (b19, .inl (y19, 10, .inl (fun _ => 0))), (b20, .inl (y20, 10, .inl (fun _ => 0))), (b21, .inl (y21, 10, .inl (fun _ => 0))), (b22, .inl (y22, 10, .inl (fun _ => 0))), (b23, .inl (y23, 10, .inl (fun _ => 0))), (b24, .inl (y24, 4, .inl (fun _ => 0))), (b25, .inl (y25, 10, .inl (fun _ => 0))), (o0, .inl (cO, 1, .inr (.inl (fun _ => 0))))] H) (hD : va_D (fun q : Nat => s.heap.size ≤ q) [(h0, .inr (9, [.ref jT, .ref jR, .ref e2, .ref jL, .ref jU, .ref jF, .ref e6, .ref jN, .ref jA, .ref e9])), (jT, .inr (8, [.ref t0, .int 0])), (t0, .inl (cC, 120, .inl (fun _ => 0))), (jR, .inr (4, [.ref jT, .ref r1, .ref r2, .int 0, .int 0, .int 0, .ref (ad 0), .ref (ad 0)])), (jL, .inr (7, [.ref l0, .int 0])), (l0, .inl (cL, 6, .inr (.inr (.inr (.inr (fun _ => none)))))), (jU, .inr (7, [.ref m0, .int 0])), (m0, .inl (cM, 8, .inr (.inr (.inr (.inr (fun _ => none)))))), (jF, .inr (2, [.ref f0, .ref f1, .ref f2, .ref f3, .ref f4, .int 0, .int 0, .int 0])), (f0, .inl (z0, 10, .inl (fun _ => 0))), (f1, .inl (z1, 10, .inl (fun _ => 0))), (f2, .inl (z2, 10, .inl (fun _ => 0))), (f4, .inl (z4, 4, .inl (fun _ => 0))), (jN, .inr (3, [.ref n0, .ref n1, .ref n2, .ref n3, .ref n4, .int 0])), (jA, .inr (0, [.ref a0, .ref a1, .ref a2, .ref a3, .int 0])), (g0, .inr (10, [.int 0, .ref b1, .ref b2, .ref b3, .ref b4, .ref b1, .int 0, .int 0, .int 0, .int 0, .int 0, .int 0, .int 0, .int 0, .int 0, .int 0, .ref (ad 5), .ref (ad 7), .int 0, .ref b19, .ref b20, .ref b21, .ref b22, .ref b23, .ref b24, .ref b25, .int 0, .int 0, .ref b28, .ref b29, .ref b30, .ref b31, .ref b32, .ref b33, .ref b34, .ref b35, .ref b36, .int 0, .int 0, .long 0, .ref b40, .ref b41, .ref b42, .ref b43, .ref b44, .int 0, .ref b46, .ref b47, .ref b48, .ref b49, .ref b50, .int 0])), (b1, .inl (y1, 120, .inl (fun _ => 0))), (b19, .inl (y19, 10, .inl (fun _ => 0))), (b20, .inl (y20, 10, .inl (fun _ => 0))), (b21, .inl (y21, 10, .inl (fun _ => 0))), (b22, .inl (y22, 10, .inl (fun _ => 0))), (b23, .inl (y23, 10, .inl (fun _ => 0))), (b24, .inl (y24, 4, .inl (fun _ => 0))), (b25, .inl (y25, 10, .inl (fun _ => 0))), (o0, .inl (cO, 1, .inr (.inl (fun _ => 0))))]) (hS : va_S (fun q : Nat => s.heap.size ≤ q) s.heap H locs) {ls : Array Slot} (hl : lv_has ls 7 [(4, .int 0), (3, .ref o0), (2, .ref g0), (1, .ref h0), (0, .ref b)]) (hlt : l.stackTraces = false) : W p l e room_1 s m #[Value.ref b] below meth c H locs 76 3048 (lw_Z below #[Value.ref b] s) (F0 m 447 ls []) := by
  obtain ⟨hx, hb, hr, hml, hown, hts, hX, hbl, hlocks, hgv⟩ := id C0
  have hown : s.vm.findClass RL = some m.cls := hown
  have hA : ∀ q : Nat, s.heap.size ≤ q → (fun q : Nat => s.heap.size ≤ q) q := fun _ h => h
  have hbA : ¬ (fun q : Nat => s.heap.size ≤ q) b := Nat.not_le.mpr hbl
  refine lv_aload_n hx hb dL_law_447 rfl (lv_at hl 3 rfl) ?_
  refine lv_aload_n hx hb dL_law_448 rfl (lv_at hl 4 rfl) ?_
  refine lv_iload hx hb dL_law_449 (lv_at hl 0 rfl) ?_
  refine lv_iconst (v := 1) hx hb dL_law_451 (by decide) ?_
  refine lv_iadd hx hb dL_law_452 ?_
  refine lv_topi (fun y_1 ey_1 => ?_)
  obtain rfl : y_1 = 1 := ey_1.trans (by decide)
  refine va_sld hx hb hX hbl hbA hS (by unfold vp_in; decide) dL_law_453 ?_
  refine lv_aload_n hx hb dL_law_454 rfl (lv_at hl 4 rfl) ?_
  refine lv_iload hx hb dL_law_455 (lv_at hl 0 rfl) ?_
  refine lv_iconst (v := 2) hx hb dL_law_457 (by decide) ?_
  refine lv_iadd hx hb dL_law_458 ?_
  refine lv_topi (fun y_2 ey_2 => ?_)
  obtain rfl : y_2 = 2 := ey_2.trans (by decide)
  refine va_sld hx hb hX hbl hbA hS (by unfold vp_in; decide) dL_law_459 ?_
  refine lv_aload_n hx hb dL_law_460 rfl (lv_at hl 4 rfl) ?_
  refine lv_iload hx hb dL_law_461 (lv_at hl 0 rfl) ?_
  refine lv_iconst (v := 3) hx hb dL_law_463 (by decide) ?_
  refine lv_iadd hx hb dL_law_464 ?_
  refine lv_topi (fun y_3 ey_3 => ?_)
  obtain rfl : y_3 = 3 := ey_3.trans (by decide)
  refine va_sld hx hb hX hbl hbA hS (by unfold vp_in; decide) dL_law_465 ?_
  refine lv_aload_n hx hb dL_law_466 rfl (lv_at hl 1 rfl) ?_
  have hPc := hP.sub (ws' := [(h0, .inr (9, [.ref jT, .ref jR, .ref e2, .ref jL, .ref jU, .ref jF, .ref e6, .ref jN, .ref jA, .ref e9])), (jL, .inr (7, [.ref l0, .int 0]))]) [0, 4] rfl
  have hKc := hK.sub (tys' := []) [] rfl
  refine va_calli (vx_runSW (hh := [(0, 12, 15, 13)]) (As := [.ref h0, .int (xs (Int32.toNatClampNeg 1)), .int (xs (Int32.toNatClampNeg 2)), .int (xs (Int32.toNatClampNeg 3)), .ref o0]) (rest := []) ⟨hx, hb, hml, hown, hts⟩ (c_worthL l hlt dC dI (fun q : Nat => s.heap.size ≤ q) h0 jL (.ref jT : Value) (.ref jR : Value) (.ref e2 : Value) (.ref jU : Value) (.ref jF : Value) (.ref e6 : Value) (.ref jN : Value) (.ref jA : Value) (.ref e9 : Value) (.ref l0 : Value) (xs (Int32.toNatClampNeg 1)) (xs (Int32.toNatClampNeg 2)) (xs (Int32.toNatClampNeg 3)) o0) (vx_cwSW 5 hts (kG (List.forall_mem_cons.mpr ⟨tw_1002, (List.forall_mem_cons.mpr ⟨tw_1003, (List.forall_mem_cons.mpr ⟨tw_74, (fun _ h => absurd h List.not_mem_nil)⟩)⟩)⟩) (by decide +kernel) in_w_c_worthL gw_c_worthL) rfl rfl rfl (by decide +kernel) ⟨(Nat.le_of_ble_eq_true rfl), (Nat.le_of_ble_eq_true rfl)⟩) (kR_S kThr_blind (kThr_give hXX.2.2.2.2 hS) hPc hKc) rfl rfl hl.1 rfl (lv_room (Nat.le_of_ble_eq_true rfl)) dL_law_467 ⟨(Nat.le_of_ble_eq_true rfl), (Nat.le_of_ble_eq_true rfl)⟩) hS (fun _ _ h => h.elim) (fun _ h => h.elim) (fun r u t H1 locs ht hvm hw hB hz1 hk1 hS => ?_)
  obtain rfl : r = 1 := hw
  have hP := hP.kept (fun k q hk => hk1 q.1 ((hP k q hk).lt) (fun h => h))
  generalize H1 = H at hP hS ⊢
  have hP : va_P (dC, dI) vwCl [(h0, .inr (9, [.ref jT, .ref jR, .ref e2, .ref jL, .ref jU, .ref jF, .ref e6, .ref jN, .ref jA, .ref e9])), (jT, .inr (8, [.ref t0, .int 0])), (t0, .inl (cC, 120, .inl (fun _ => 0))), (jR, .inr (4, [.ref jT, .ref r1, .ref r2, .int 0, .int 0, .int 0, .ref (ad 0), .ref (ad 0)])), (jL, .inr (7, [.ref l0, .int 0])), (l0, .inl (cL, 6, .inr (.inr (.inr (.inr (fun _ => none)))))), (jU, .inr (7, [.ref m0, .int 0])), (m0, .inl (cM, 8, .inr (.inr (.inr (.inr (fun _ => none)))))), (jF, .inr (2, [.ref f0, .ref f1, .ref f2, .ref f3, .ref f4, .int 0, .int 0, .int 0])), (f0, .inl (z0, 10, .inl (fun _ => 0))), (f1, .inl (z1, 10, .inl (fun _ => 0))), (f2, .inl (z2, 10, .inl (fun _ => 0))), (f4, .inl (z4, 4, .inl (fun _ => 0))), (jN, .inr (3, [.ref n0, .ref n1, .ref n2, .ref n3, .ref n4, .int 0])), (jA, .inr (0, [.ref a0, .ref a1, .ref a2, .ref a3, .int 0])), (g0, .inr (10, [.int 0, .ref b1, .ref b2, .ref b3, .ref b4, .ref b1, .int 0, .int 0, .int 0, .int 0, .int 0, .int 0, .int 0, .int 0, .int 0, .int 0, .ref (ad 5), .ref (ad 7), .int 0, .ref b19, .ref b20, .ref b21, .ref b22, .ref b23, .ref b24, .ref b25, .int 0, .int 0, .ref b28, .ref b29, .ref b30, .ref b31, .ref b32, .ref b33, .ref b34, .ref b35, .ref b36, .int 0, .int 0, .long 0, .ref b40, .ref b41, .ref b42, .ref b43, .ref b44, .int 0, .ref b46, .ref b47, .ref b48, .ref b49, .ref b50, .int 0])), (b1, .inl (y1, 120, .inl (fun _ => 0))), (b19, .inl (y19, 10, .inl (fun _ => 0))), (b20, .inl (y20, 10, .inl (fun _ => 0))), (b21, .inl (y21, 10, .inl (fun _ => 0))), (b22, .inl (y22, 10, .inl (fun _ => 0))), (b23, .inl (y23, 10, .inl (fun _ => 0))), (b24, .inl (y24, 4, .inl (fun _ => 0))), (b25, .inl (y25, 10, .inl (fun _ => 0))), (o0, .inl (cO, 1, .inr (.inl (fun _ => 0))))] H := hP
  have hD : va_D (fun q : Nat => s.heap.size ≤ q) [(h0, .inr (9, [.ref jT, .ref jR, .ref e2, .ref jL, .ref jU, .ref jF, .ref e6, .ref jN, .ref jA, .ref e9])), (jT, .inr (8, [.ref t0, .int 0])), (t0, .inl (cC, 120, .inl (fun _ => 0))), (jR, .inr (4, [.ref jT, .ref r1, .ref r2, .int 0, .int 0, .int 0, .ref (ad 0), .ref (ad 0)])), (jL, .inr (7, [.ref l0, .int 0])), (l0, .inl (cL, 6, .inr (.inr (.inr (.inr (fun _ => none)))))), (jU, .inr (7, [.ref m0, .int 0])), (m0, .inl (cM, 8, .inr (.inr (.inr (.inr (fun _ => none)))))), (jF, .inr (2, [.ref f0, .ref f1, .ref f2, .ref f3, .ref f4, .int 0, .int 0, .int 0])), (f0, .inl (z0, 10, .inl (fun _ => 0))), (f1, .inl (z1, 10, .inl (fun _ => 0))), (f2, .inl (z2, 10, .inl (fun _ => 0))), (f4, .inl (z4, 4, .inl (fun _ => 0))), (jN, .inr (3, [.ref n0, .ref n1, .ref n2, .ref n3, .ref n4, .int 0])), (jA, .inr (0, [.ref a0, .ref a1, .ref a2, .ref a3, .int 0])), (g0, .inr (10, [.int 0, .ref b1, .ref b2, .ref b3, .ref b4, .ref b1, .int 0, .int 0, .int 0, .int 0, .int 0, .int 0, .int 0, .int 0, .int 0, .int 0, .ref (ad 5), .ref (ad 7), .int 0, .ref b19, .ref b20, .ref b21, .ref b22, .ref b23, .ref b24, .ref b25, .int 0, .int 0, .ref b28, .ref b29, .ref b30, .ref b31, .ref b32, .ref b33, .ref b34, .ref b35, .ref b36, .int 0, .int 0, .long 0, .ref b40, .ref b41, .ref b42, .ref b43, .ref b44, .int 0, .ref b46, .ref b47, .ref b48, .ref b49, .ref b50, .int 0])), (b1, .inl (y1, 120, .inl (fun _ => 0))), (b19, .inl (y19, 10, .inl (fun _ => 0))), (b20, .inl (y20, 10, .inl (fun _ => 0))), (b21, .inl (y21, 10, .inl (fun _ => 0))), (b22, .inl (y22, 10, .inl (fun _ => 0))), (b23, .inl (y23, 10, .inl (fun _ => 0))), (b24, .inl (y24, 4, .inl (fun _ => 0))), (b25, .inl (y25, 10, .inl (fun _ => 0))), (o0, .inl (cO, 1, .inr (.inl (fun _ => 0))))] := hD
  refine W.widen (k := 77) (n := 3054) (Nat.le_of_ble_eq_true rfl) (Nat.le_of_ble_eq_true rfl) ?_
  refine lv_istore (lv' := [(5, .int 1), (4, .int 0), (3, .ref o0), (2, .ref g0), (1, .ref h0), (0, .ref b)]) hx hb dL_law_470 hl (by decide) rfl (fun ls hl => ?_)
  refine lv_aload_n hx hb dL_law_472 rfl (lv_at hl 3 rfl) ?_
  refine lv_aload_n hx hb dL_law_473 rfl (lv_at hl 5 rfl) ?_
  refine lv_iload hx hb dL_law_474 (lv_at hl 1 rfl) ?_
  refine lv_iconst (v := 1) hx hb dL_law_476 (by decide) ?_
  refine lv_iadd hx hb dL_law_477 ?_
  refine lv_topi (fun y_4 ey_4 => ?_)
  obtain rfl : y_4 = 1 := ey_4.trans (by decide)
  refine va_sld hx hb hX hbl hbA hS (by unfold vp_in; decide) dL_law_478 ?_
  refine lv_aload_n hx hb dL_law_479 rfl (lv_at hl 5 rfl) ?_
  refine lv_iload hx hb dL_law_480 (lv_at hl 1 rfl) ?_
  refine lv_iconst (v := 2) hx hb dL_law_482 (by decide) ?_
  refine lv_iadd hx hb dL_law_483 ?_
  refine lv_topi (fun y_5 ey_5 => ?_)
  obtain rfl : y_5 = 2 := ey_5.trans (by decide)
  refine va_sld hx hb hX hbl hbA hS (by unfold vp_in; decide) dL_law_484 ?_
  refine lv_aload_n hx hb dL_law_485 rfl (lv_at hl 5 rfl) ?_
  refine lv_iload hx hb dL_law_486 (lv_at hl 1 rfl) ?_
  refine lv_iconst (v := 3) hx hb dL_law_488 (by decide) ?_
  refine lv_iadd hx hb dL_law_489 ?_
  refine lv_topi (fun y_6 ey_6 => ?_)
  obtain rfl : y_6 = 3 := ey_6.trans (by decide)
  refine va_sld hx hb hX hbl hbA hS (by unfold vp_in; decide) dL_law_490 ?_
  have hPc := hP.sub (ws' := [(g0, .inr (10, [.int 0, .ref b1, .ref b2, .ref b3, .ref b4, .ref b1, .int 0, .int 0, .int 0, .int 0, .int 0, .int 0, .int 0, .int 0, .int 0, .int 0, .ref (ad 5), .ref (ad 7), .int 0, .ref b19, .ref b20, .ref b21, .ref b22, .ref b23, .ref b24, .ref b25, .int 0, .int 0, .ref b28, .ref b29, .ref b30, .ref b31, .ref b32, .ref b33, .ref b34, .ref b35, .ref b36, .int 0, .int 0, .long 0, .ref b40, .ref b41, .ref b42, .ref b43, .ref b44, .int 0, .ref b46, .ref b47, .ref b48, .ref b49, .ref b50, .int 0]))]) [15] rfl
  have hKc := hK.sub (tys' := []) [] rfl
  have hDc := hD.sub (ws' := [(g0, .inr (10, [.int 0, .ref b1, .ref b2, .ref b3, .ref b4, .ref b1, .int 0, .int 0, .int 0, .int 0, .int 0, .int 0, .int 0, .int 0, .int 0, .int 0, .ref (ad 5), .ref (ad 7), .int 0, .ref b19, .ref b20, .ref b21, .ref b22, .ref b23, .ref b24, .ref b25, .int 0, .int 0, .ref b28, .ref b29, .ref b30, .ref b31, .ref b32, .ref b33, .ref b34, .ref b35, .ref b36, .int 0, .int 0, .long 0, .ref b40, .ref b41, .ref b42, .ref b43, .ref b44, .int 0, .ref b46, .ref b47, .ref b48, .ref b49, .ref b50, .int 0]))]) [15] (by decide) rfl
  have hFc := va_free (wc := [(g0, .inr (10, [.int 0, .ref b1, .ref b2, .ref b3, .ref b4, .ref b1, .int 0, .int 0, .int 0, .int 0, .int 0, .int 0, .int 0, .int 0, .int 0, .int 0, .ref (ad 5), .ref (ad 7), .int 0, .ref b19, .ref b20, .ref b21, .ref b22, .ref b23, .ref b24, .ref b25, .int 0, .int 0, .ref b28, .ref b29, .ref b30, .ref b31, .ref b32, .ref b33, .ref b34, .ref b35, .ref b36, .int 0, .int 0, .long 0, .ref b40, .ref b41, .ref b42, .ref b43, .ref b44, .int 0, .ref b46, .ref b47, .ref b48, .ref b49, .ref b50, .int 0]))]) hD hS hA [15] rfl
  refine va_calli (va_runV (As := [.int (xs (Int32.toNatClampNeg 1)), .int (xs (Int32.toNatClampNeg 2)), .int (xs (Int32.toNatClampNeg 3))]) (rest := []) ⟨hx, hb, hml, hown, hts⟩ (c_worth10 l dC dI g0 (.int 0 : Value) (.ref b1 : Value) (.ref b2 : Value) (.ref b3 : Value) (.ref b4 : Value) (.ref b1 : Value) (.int 0 : Value) (.int 0 : Value) (.int 0 : Value) (.int 0 : Value) (.int 0 : Value) (.int 0 : Value) (.int 0 : Value) (.int 0 : Value) (.int 0 : Value) (.ref (ad 5) : Value) (.ref (ad 7) : Value) (.int 0 : Value) (.ref b19 : Value) (.ref b20 : Value) (.ref b21 : Value) (.ref b22 : Value) (.ref b23 : Value) (.ref b24 : Value) (.ref b25 : Value) (.int 0 : Value) (.int 0 : Value) (.ref b28 : Value) (.ref b29 : Value) (.ref b30 : Value) (.ref b31 : Value) (.ref b32 : Value) (.ref b33 : Value) (.ref b34 : Value) (.ref b35 : Value) (.ref b36 : Value) (.int 0 : Value) (.int 0 : Value) (.long 0 : Value) (.ref b40 : Value) (.ref b41 : Value) (.ref b42 : Value) (.ref b43 : Value) (.ref b44 : Value) (.int 0 : Value) (.ref b46 : Value) (.ref b47 : Value) (.ref b48 : Value) (.ref b49 : Value) (.ref b50 : Value) (.int 0 : Value) (xs (Int32.toNatClampNeg 1)) (xs (Int32.toNatClampNeg 2)) (xs (Int32.toNatClampNeg 3)) H.size) (cwV 3 hts (kG (List.forall_mem_cons.mpr ⟨tw_1383, (List.forall_mem_cons.mpr ⟨tw_1384, (List.forall_mem_cons.mpr ⟨tw_1385, (List.forall_mem_cons.mpr ⟨tw_85, (fun _ h => absurd h List.not_mem_nil)⟩)⟩)⟩)⟩) (by decide +kernel) in_w_c_worth10 gw_c_worth10) rfl rfl rfl (by decide +kernel) ⟨(Nat.le_of_ble_eq_true rfl), (Nat.le_of_ble_eq_true rfl)⟩) (kW_V kT_blind kT_give (va_recv hKc hPc (ci := 10) (q0 := 0) rfl rfl) hPc hKc hDc) rfl rfl hl.1 rfl (lv_room (Nat.le_of_ble_eq_true rfl)) dL_law_491 ⟨(Nat.le_of_ble_eq_true rfl), (Nat.le_of_ble_eq_true rfl)⟩) hS (fun q _ h => hFc q h) hFc (fun r_7 u t H1 locs ht hvm hw hB hz1 hk1 hS => ?_)
  obtain ⟨hP1, hK1, hD1⟩ := hB
  rw [ht] at hP1
  try dsimp only at hw
  obtain ⟨hP, hD⟩ := va_join (wr := [(h0, .inr (9, [.ref jT, .ref jR, .ref e2, .ref jL, .ref jU, .ref jF, .ref e6, .ref jN, .ref jA, .ref e9])), (jT, .inr (8, [.ref t0, .int 0])), (t0, .inl (cC, 120, .inl (fun _ => 0))), (jR, .inr (4, [.ref jT, .ref r1, .ref r2, .int 0, .int 0, .int 0, .ref (ad 0), .ref (ad 0)])), (jL, .inr (7, [.ref l0, .int 0])), (l0, .inl (cL, 6, .inr (.inr (.inr (.inr (fun _ => none)))))), (jU, .inr (7, [.ref m0, .int 0])), (m0, .inl (cM, 8, .inr (.inr (.inr (.inr (fun _ => none)))))), (jF, .inr (2, [.ref f0, .ref f1, .ref f2, .ref f3, .ref f4, .int 0, .int 0, .int 0])), (f0, .inl (z0, 10, .inl (fun _ => 0))), (f1, .inl (z1, 10, .inl (fun _ => 0))), (f2, .inl (z2, 10, .inl (fun _ => 0))), (f4, .inl (z4, 4, .inl (fun _ => 0))), (jN, .inr (3, [.ref n0, .ref n1, .ref n2, .ref n3, .ref n4, .int 0])), (jA, .inr (0, [.ref a0, .ref a1, .ref a2, .ref a3, .int 0])), (b1, .inl (y1, 120, .inl (fun _ => 0))), (b19, .inl (y19, 10, .inl (fun _ => 0))), (b20, .inl (y20, 10, .inl (fun _ => 0))), (b21, .inl (y21, 10, .inl (fun _ => 0))), (b22, .inl (y22, 10, .inl (fun _ => 0))), (b23, .inl (y23, 10, .inl (fun _ => 0))), (b24, .inl (y24, 4, .inl (fun _ => 0))), (b25, .inl (y25, 10, .inl (fun _ => 0))), (o0, .inl (cO, 1, .inr (.inl (fun _ => 0))))]) (w1 := [(g0, .inr (10, [.int 1, .ref b1, .ref b2, .ref b3, .ref b4, .ref b1, .int 0, .int 0, .int 0, .int 0, .int 0, .int 0, .int 0, .int 0, .int 0, .int 0, .ref (ad 5), .ref (ad 7), .int 0, .ref b19, .ref b20, .ref b21, .ref b22, .ref b23, .ref b24, .ref b25, .int 0, .int 0, .ref b28, .ref b29, .ref b30, .ref b31, .ref b32, .ref b33, .ref b34, .ref b35, .ref b36, .int 0, .int 0, .long 0, .ref b40, .ref b41, .ref b42, .ref b43, .ref b44, .int 0, .ref b46, .ref b47, .ref b48, .ref b49, .ref b50, .int 0]))]) hP hD [15] [0, 1, 2, 3, 4, 5, 6, 7, 8, 9, 10, 11, 12, 13, 14, 16, 17, 18, 19, 20, 21, 22, 23, 24] rfl rfl (by decide) (by decide) hk1 hFc hP1 hD1
  generalize H1 = H at hP hS ⊢
  have hP : va_P (dC, dI) vwCl [(h0, .inr (9, [.ref jT, .ref jR, .ref e2, .ref jL, .ref jU, .ref jF, .ref e6, .ref jN, .ref jA, .ref e9])), (jT, .inr (8, [.ref t0, .int 0])), (t0, .inl (cC, 120, .inl (fun _ => 0))), (jR, .inr (4, [.ref jT, .ref r1, .ref r2, .int 0, .int 0, .int 0, .ref (ad 0), .ref (ad 0)])), (jL, .inr (7, [.ref l0, .int 0])), (l0, .inl (cL, 6, .inr (.inr (.inr (.inr (fun _ => none)))))), (jU, .inr (7, [.ref m0, .int 0])), (m0, .inl (cM, 8, .inr (.inr (.inr (.inr (fun _ => none)))))), (jF, .inr (2, [.ref f0, .ref f1, .ref f2, .ref f3, .ref f4, .int 0, .int 0, .int 0])), (f0, .inl (z0, 10, .inl (fun _ => 0))), (f1, .inl (z1, 10, .inl (fun _ => 0))), (f2, .inl (z2, 10, .inl (fun _ => 0))), (f4, .inl (z4, 4, .inl (fun _ => 0))), (jN, .inr (3, [.ref n0, .ref n1, .ref n2, .ref n3, .ref n4, .int 0])), (jA, .inr (0, [.ref a0, .ref a1, .ref a2, .ref a3, .int 0])), (b1, .inl (y1, 120, .inl (fun _ => 0))), (b19, .inl (y19, 10, .inl (fun _ => 0))), (b20, .inl (y20, 10, .inl (fun _ => 0))), (b21, .inl (y21, 10, .inl (fun _ => 0))), (b22, .inl (y22, 10, .inl (fun _ => 0))), (b23, .inl (y23, 10, .inl (fun _ => 0))), (b24, .inl (y24, 4, .inl (fun _ => 0))), (b25, .inl (y25, 10, .inl (fun _ => 0))), (o0, .inl (cO, 1, .inr (.inl (fun _ => 0)))), (g0, .inr (10, [.int 1, .ref b1, .ref b2, .ref b3, .ref b4, .ref b1, .int 0, .int 0, .int 0, .int 0, .int 0, .int 0, .int 0, .int 0, .int 0, .int 0, .ref (ad 5), .ref (ad 7), .int 0, .ref b19, .ref b20, .ref b21, .ref b22, .ref b23, .ref b24, .ref b25, .int 0, .int 0, .ref b28, .ref b29, .ref b30, .ref b31, .ref b32, .ref b33, .ref b34, .ref b35, .ref b36, .int 0, .int 0, .long 0, .ref b40, .ref b41, .ref b42, .ref b43, .ref b44, .int 0, .ref b46, .ref b47, .ref b48, .ref b49, .ref b50, .int 0]))] H := hP
  have hD : va_D (fun q : Nat => s.heap.size ≤ q) [(h0, .inr (9, [.ref jT, .ref jR, .ref e2, .ref jL, .ref jU, .ref jF, .ref e6, .ref jN, .ref jA, .ref e9])), (jT, .inr (8, [.ref t0, .int 0])), (t0, .inl (cC, 120, .inl (fun _ => 0))), (jR, .inr (4, [.ref jT, .ref r1, .ref r2, .int 0, .int 0, .int 0, .ref (ad 0), .ref (ad 0)])), (jL, .inr (7, [.ref l0, .int 0])), (l0, .inl (cL, 6, .inr (.inr (.inr (.inr (fun _ => none)))))), (jU, .inr (7, [.ref m0, .int 0])), (m0, .inl (cM, 8, .inr (.inr (.inr (.inr (fun _ => none)))))), (jF, .inr (2, [.ref f0, .ref f1, .ref f2, .ref f3, .ref f4, .int 0, .int 0, .int 0])), (f0, .inl (z0, 10, .inl (fun _ => 0))), (f1, .inl (z1, 10, .inl (fun _ => 0))), (f2, .inl (z2, 10, .inl (fun _ => 0))), (f4, .inl (z4, 4, .inl (fun _ => 0))), (jN, .inr (3, [.ref n0, .ref n1, .ref n2, .ref n3, .ref n4, .int 0])), (jA, .inr (0, [.ref a0, .ref a1, .ref a2, .ref a3, .int 0])), (b1, .inl (y1, 120, .inl (fun _ => 0))), (b19, .inl (y19, 10, .inl (fun _ => 0))), (b20, .inl (y20, 10, .inl (fun _ => 0))), (b21, .inl (y21, 10, .inl (fun _ => 0))), (b22, .inl (y22, 10, .inl (fun _ => 0))), (b23, .inl (y23, 10, .inl (fun _ => 0))), (b24, .inl (y24, 4, .inl (fun _ => 0))), (b25, .inl (y25, 10, .inl (fun _ => 0))), (o0, .inl (cO, 1, .inr (.inl (fun _ => 0)))), (g0, .inr (10, [.int 1, .ref b1, .ref b2, .ref b3, .ref b4, .ref b1, .int 0, .int 0, .int 0, .int 0, .int 0, .int 0, .int 0, .int 0, .int 0, .int 0, .ref (ad 5), .ref (ad 7), .int 0, .ref b19, .ref b20, .ref b21, .ref b22, .ref b23, .ref b24, .ref b25, .int 0, .int 0, .ref b28, .ref b29, .ref b30, .ref b31, .ref b32, .ref b33, .ref b34, .ref b35, .ref b36, .int 0, .int 0, .long 0, .ref b40, .ref b41, .ref b42, .ref b43, .ref b44, .int 0, .ref b46, .ref b47, .ref b48, .ref b49, .ref b50, .int 0]))] := hD
  obtain rfl : r_7 = 0 := hw
  refine lv_istore (lv' := [(6, .int 0), (5, .int 1), (4, .int 0), (3, .ref o0), (2, .ref g0), (1, .ref h0), (0, .ref b)]) hx hb dL_law_494 hl (by decide) rfl (fun ls hl => ?_)
  refine lv_aload_n hx hb dL_law_496 rfl (lv_at hl 4 rfl) ?_
  have hPc := hP.sub (ws' := [(g0, .inr (10, [.int 1, .ref b1, .ref b2, .ref b3, .ref b4, .ref b1, .int 0, .int 0, .int 0, .int 0, .int 0, .int 0, .int 0, .int 0, .int 0, .int 0, .ref (ad 5), .ref (ad 7), .int 0, .ref b19, .ref b20, .ref b21, .ref b22, .ref b23, .ref b24, .ref b25, .int 0, .int 0, .ref b28, .ref b29, .ref b30, .ref b31, .ref b32, .ref b33, .ref b34, .ref b35, .ref b36, .int 0, .int 0, .long 0, .ref b40, .ref b41, .ref b42, .ref b43, .ref b44, .int 0, .ref b46, .ref b47, .ref b48, .ref b49, .ref b50, .int 0]))]) [24] rfl
  have hKc := hK.sub (tys' := []) [] rfl
  refine vp_callSi (va_runV (As := []) (rest := []) ⟨hx, hb, hml, hown, hts⟩ (c_thrown10 l dC dI g0 1 (.ref b1 : Value) (.ref b2 : Value) (.ref b3 : Value) (.ref b4 : Value) (.ref b1 : Value) (.int 0 : Value) (.int 0 : Value) (.int 0 : Value) (.int 0 : Value) (.int 0 : Value) (.int 0 : Value) (.int 0 : Value) (.int 0 : Value) (.int 0 : Value) (.int 0 : Value) (.ref (ad 5) : Value) (.ref (ad 7) : Value) (.int 0 : Value) (.ref b19 : Value) (.ref b20 : Value) (.ref b21 : Value) (.ref b22 : Value) (.ref b23 : Value) (.ref b24 : Value) (.ref b25 : Value) (.int 0 : Value) (.int 0 : Value) (.ref b28 : Value) (.ref b29 : Value) (.ref b30 : Value) (.ref b31 : Value) (.ref b32 : Value) (.ref b33 : Value) (.ref b34 : Value) (.ref b35 : Value) (.ref b36 : Value) (.int 0 : Value) (.int 0 : Value) (.long 0 : Value) (.ref b40 : Value) (.ref b41 : Value) (.ref b42 : Value) (.ref b43 : Value) (.ref b44 : Value) (.int 0 : Value) (.ref b46 : Value) (.ref b47 : Value) (.ref b48 : Value) (.ref b49 : Value) (.ref b50 : Value) (.int 0 : Value)) (cwV 0 hts (kG (List.forall_mem_cons.mpr ⟨tw_1241, (List.forall_mem_cons.mpr ⟨tw_1242, (List.forall_mem_cons.mpr ⟨tw_1243, (List.forall_mem_cons.mpr ⟨tw_85, (fun _ h => absurd h List.not_mem_nil)⟩)⟩)⟩)⟩) (by decide +kernel) in_w_c_thrown10 gw_c_thrown10) rfl rfl rfl (by decide +kernel) ⟨(Nat.le_of_ble_eq_true rfl), (Nat.le_of_ble_eq_true rfl)⟩) (kR_V kT_blind kT_give (va_recv hKc hPc (ci := 10) (q0 := 0) rfl rfl) hPc hKc) rfl rfl hl.1 rfl (lv_room (Nat.le_of_ble_eq_true rfl)) dL_law_497 ⟨(Nat.le_of_ble_eq_true rfl), (Nat.le_of_ble_eq_true rfl)⟩).run (fun r_8 hw => ?_)
  obtain rfl : r_8 = 1 := hw
  refine lv_iload hx hb dL_law_500 (lv_at hl 1 rfl) ?_
  refine lv_icmp_eq (tgt := 507) hx hb dL_law_502 (by decide) (fun c_9 => ?_) (fun c_9 => absurd (by decide) c_9)
  refine lv_iload hx hb dL_law_507 (lv_at hl 1 rfl) ?_
  refine lv_if_ne (tgt := 524) hx hb dL_law_509 (by decide) (fun c_10 => ?_) (fun c_10 => absurd c_10 (by decide))
  refine lv_goto (tgt := 1792) hx hb dL_law_524 (by decide) ?_
  exact law_tail C0 hS (Nat.le_of_ble_eq_true rfl) (Nat.le_of_ble_eq_true rfl) (lv_sub hl [2, 3, 4, 5, 6] rfl)

theorem dL_law_527 : decode cL_law 527 = .ok (.aload_n 1, 1) := by decide +kernel
theorem dL_law_528 : decode cL_law 528 = .ok (.aload_n 0, 1) := by decide +kernel
theorem dL_law_529 : decode cL_law 529 = .ok (.iload 4, 2) := by decide +kernel
theorem dL_law_531 : decode cL_law 531 = .ok (.iconst 1, 1) := by decide +kernel
theorem dL_law_532 : decode cL_law 532 = .ok (.iadd, 1) := by decide +kernel
theorem dL_law_533 : decode cL_law 533 = .ok (.iaload, 1) := by decide +kernel
theorem dL_law_534 : decode cL_law 534 = .ok (.aload_n 0, 1) := by decide +kernel
theorem dL_law_535 : decode cL_law 535 = .ok (.iload 4, 2) := by decide +kernel
theorem dL_law_537 : decode cL_law 537 = .ok (.iconst 2, 1) := by decide +kernel
theorem dL_law_538 : decode cL_law 538 = .ok (.iadd, 1) := by decide +kernel
theorem dL_law_539 : decode cL_law 539 = .ok (.iaload, 1) := by decide +kernel
theorem dL_law_540 : decode cL_law 540 = .ok (.i2l, 1) := by decide +kernel
theorem dL_law_541 : decode cL_law 541 = .ok (.bipush 32, 2) := by decide +kernel
theorem dL_law_543 : decode cL_law 543 = .ok (.lshl, 1) := by decide +kernel
theorem dL_law_544 : decode cL_law 544 = .ok (.aload_n 0, 1) := by decide +kernel
theorem dL_law_545 : decode cL_law 545 = .ok (.iload 4, 2) := by decide +kernel
theorem dL_law_547 : decode cL_law 547 = .ok (.iconst 3, 1) := by decide +kernel
theorem dL_law_548 : decode cL_law 548 = .ok (.iadd, 1) := by decide +kernel
theorem dL_law_549 : decode cL_law 549 = .ok (.iaload, 1) := by decide +kernel
theorem dL_law_550 : decode cL_law 550 = .ok (.i2l, 1) := by decide +kernel
theorem dL_law_551 : decode cL_law 551 = .ok (.ldc2_w 62, 3) := by decide +kernel
theorem dL_law_554 : decode cL_law 554 = .ok (.land, 1) := by decide +kernel
theorem dL_law_555 : decode cL_law 555 = .ok (.lor, 1) := by decide +kernel
theorem dL_law_556 : decode cL_law 556 = .ok (.aload_n 0, 1) := by decide +kernel
theorem dL_law_557 : decode cL_law 557 = .ok (.iload 4, 2) := by decide +kernel
theorem dL_law_559 : decode cL_law 559 = .ok (.iconst 4, 1) := by decide +kernel
theorem dL_law_560 : decode cL_law 560 = .ok (.iadd, 1) := by decide +kernel
theorem dL_law_561 : decode cL_law 561 = .ok (.iaload, 1) := by decide +kernel
theorem dL_law_562 : decode cL_law 562 = .ok (.aload_n 0, 1) := by decide +kernel
theorem dL_law_563 : decode cL_law 563 = .ok (.iload 4, 2) := by decide +kernel
theorem dL_law_565 : decode cL_law 565 = .ok (.iconst 5, 1) := by decide +kernel
theorem dL_law_566 : decode cL_law 566 = .ok (.iadd, 1) := by decide +kernel
theorem dL_law_567 : decode cL_law 567 = .ok (.iaload, 1) := by decide +kernel
theorem dL_law_568 : decode cL_law 568 = .ok (.aload_n 0, 1) := by decide +kernel
theorem dL_law_569 : decode cL_law 569 = .ok (.iload 4, 2) := by decide +kernel
theorem dL_law_571 : decode cL_law 571 = .ok (.bipush 6, 2) := by decide +kernel
theorem dL_law_573 : decode cL_law 573 = .ok (.iadd, 1) := by decide +kernel
theorem dL_law_574 : decode cL_law 574 = .ok (.iaload, 1) := by decide +kernel
theorem dL_law_575 : decode cL_law 575 = .ok (.invokevirtual 64, 3) := by decide +kernel
theorem dL_law_578 : decode cL_law 578 = .ok (.aload_n 2, 1) := by decide +kernel
theorem dL_law_579 : decode cL_law 579 = .ok (.aload_n 0, 1) := by decide +kernel
theorem dL_law_580 : decode cL_law 580 = .ok (.iload 4, 2) := by decide +kernel
theorem dL_law_582 : decode cL_law 582 = .ok (.iconst 1, 1) := by decide +kernel
theorem dL_law_583 : decode cL_law 583 = .ok (.iadd, 1) := by decide +kernel
theorem dL_law_584 : decode cL_law 584 = .ok (.iaload, 1) := by decide +kernel
theorem dL_law_585 : decode cL_law 585 = .ok (.aload_n 0, 1) := by decide +kernel
theorem dL_law_586 : decode cL_law 586 = .ok (.iload 4, 2) := by decide +kernel
theorem dL_law_588 : decode cL_law 588 = .ok (.iconst 2, 1) := by decide +kernel
theorem dL_law_589 : decode cL_law 589 = .ok (.iadd, 1) := by decide +kernel
theorem dL_law_590 : decode cL_law 590 = .ok (.iaload, 1) := by decide +kernel
theorem dL_law_591 : decode cL_law 591 = .ok (.i2l, 1) := by decide +kernel
theorem dL_law_592 : decode cL_law 592 = .ok (.bipush 32, 2) := by decide +kernel
theorem dL_law_594 : decode cL_law 594 = .ok (.lshl, 1) := by decide +kernel
theorem dL_law_595 : decode cL_law 595 = .ok (.aload_n 0, 1) := by decide +kernel
theorem dL_law_596 : decode cL_law 596 = .ok (.iload 4, 2) := by decide +kernel
theorem dL_law_598 : decode cL_law 598 = .ok (.iconst 3, 1) := by decide +kernel
theorem dL_law_599 : decode cL_law 599 = .ok (.iadd, 1) := by decide +kernel
theorem dL_law_600 : decode cL_law 600 = .ok (.iaload, 1) := by decide +kernel
theorem dL_law_601 : decode cL_law 601 = .ok (.i2l, 1) := by decide +kernel
theorem dL_law_602 : decode cL_law 602 = .ok (.ldc2_w 62, 3) := by decide +kernel
theorem dL_law_605 : decode cL_law 605 = .ok (.land, 1) := by decide +kernel
theorem dL_law_606 : decode cL_law 606 = .ok (.lor, 1) := by decide +kernel
theorem dL_law_607 : decode cL_law 607 = .ok (.aload_n 0, 1) := by decide +kernel
theorem dL_law_608 : decode cL_law 608 = .ok (.iload 4, 2) := by decide +kernel
theorem dL_law_610 : decode cL_law 610 = .ok (.iconst 4, 1) := by decide +kernel
theorem dL_law_611 : decode cL_law 611 = .ok (.iadd, 1) := by decide +kernel
theorem dL_law_612 : decode cL_law 612 = .ok (.iaload, 1) := by decide +kernel
theorem dL_law_613 : decode cL_law 613 = .ok (.aload_n 0, 1) := by decide +kernel
theorem dL_law_614 : decode cL_law 614 = .ok (.iload 4, 2) := by decide +kernel
theorem dL_law_616 : decode cL_law 616 = .ok (.iconst 5, 1) := by decide +kernel
theorem dL_law_617 : decode cL_law 617 = .ok (.iadd, 1) := by decide +kernel
theorem dL_law_618 : decode cL_law 618 = .ok (.iaload, 1) := by decide +kernel
theorem dL_law_619 : decode cL_law 619 = .ok (.aload_n 0, 1) := by decide +kernel
theorem dL_law_620 : decode cL_law 620 = .ok (.iload 4, 2) := by decide +kernel
theorem dL_law_622 : decode cL_law 622 = .ok (.bipush 6, 2) := by decide +kernel
theorem dL_law_624 : decode cL_law 624 = .ok (.iadd, 1) := by decide +kernel
theorem dL_law_625 : decode cL_law 625 = .ok (.iaload, 1) := by decide +kernel
theorem dL_law_626 : decode cL_law 626 = .ok (.invokevirtual 68, 3) := by decide +kernel
theorem dL_law_629 : decode cL_law 629 = .ok (.if_icmp .eq 1163, 3) := by decide +kernel
set_option maxHeartbeats 4000000 in
set_option maxRecDepth 100000 in
theorem law_8 {p : Program} {l : Launch} {e : Env} {s : State} {m : MethodId} {below : List Frame} {meth : Method} {c : Code} {b : Nat} {xs : Nat → Int32} {dC : Nat → ClassId} {dI : Nat → Nat → Nat} {ad : Nat → Nat} {h0 : Nat} {g0 : Nat} {o0 : Nat} {jT : Nat} {jR : Nat} {e2 : Nat} {jL : Nat} {jU : Nat} {jF : Nat} {e6 : Nat} {jN : Nat} {jA : Nat} {e9 : Nat} {t0 : Nat} {r1 : Nat} {r2 : Nat} {l0 : Nat} {m0 : Nat} {f0 : Nat} {f1 : Nat} {f2 : Nat} {f3 : Nat} {f4 : Nat} {n0 : Nat} {n1 : Nat} {n2 : Nat} {n3 : Nat} {n4 : Nat} {a0 : Nat} {a1 : Nat} {a2 : Nat} {a3 : Nat} {cC : ClassId} {cL : ClassId} {cM : ClassId} {z0 : ClassId} {z1 : ClassId} {z2 : ClassId} {z4 : ClassId} {b1 : Nat} {b2 : Nat} {b3 : Nat} {b4 : Nat} {b19 : Nat} {b20 : Nat} {b21 : Nat} {b22 : Nat} {b23 : Nat} {b24 : Nat} {b25 : Nat} {b28 : Nat} {b29 : Nat} {b30 : Nat} {b31 : Nat} {b32 : Nat} {b33 : Nat} {b34 : Nat} {b35 : Nat} {b36 : Nat} {b40 : Nat} {b41 : Nat} {b42 : Nat} {b43 : Nat} {b44 : Nat} {b46 : Nat} {b47 : Nat} {b48 : Nat} {b49 : Nat} {b50 : Nat} {y1 : ClassId} {y19 : ClassId} {y20 : ClassId} {y21 : ClassId} {y22 : ClassId} {y23 : ClassId} {y24 : ClassId} {y25 : ClassId} {cO : ClassId} (C0 : lw_At p s m meth c b 7 xs) (hXX : kLaw ad s) {H : Heap} {locs : List Loc} (hK : va_K (dC, dI) vwCl [(cC, .char), (cL, .object RX6), (cM, .object RX6), (z0, .int), (z1, .int), (z2, .int), (z4, .int), (y1, .byte), (y19, .int), (y20, .int), (y21, .int), (y22, .int), (y23, .int), (y24, .int), (y25, .boolean), (cO, .long)] s) (hP : va_P (dC, dI) vwCl [(h0, .inr (9, [.ref jT, .ref jR, .ref e2, .ref jL, .ref jU, .ref jF, .ref e6, .ref jN, .ref jA, .ref e9])), (jT, .inr (8, [.ref t0, .int 0])), (t0, .inl (cC, 120, .inl (fun _ => 0))), (jR, .inr (4, [.ref jT, .ref r1, .ref r2, .int 0, .int 0, .int 0, .ref (ad 0), .ref (ad 0)])), (jL, .inr (7, [.ref l0, .int 0])), (l0, .inl (cL, 6, .inr (.inr (.inr (.inr (fun _ => none)))))), (jU, .inr (7, [.ref m0, .int 0])), (m0, .inl (cM, 8, .inr (.inr (.inr (.inr (fun _ => none)))))), (jF, .inr (2, [.ref f0, .ref f1, .ref f2, .ref f3, .ref f4, .int 0, .int 0, .int 0])), (f0, .inl (z0, 10, .inl (fun _ => 0))), (f1, .inl (z1, 10, .inl (fun _ => 0))), (f2, .inl (z2, 10, .inl (fun _ => 0))), (f4, .inl (z4, 4, .inl (fun _ => 0))), (jN, .inr (3, [.ref n0, .ref n1, .ref n2, .ref n3, .ref n4, .int 0])), (jA, .inr (0, [.ref a0, .ref a1, .ref a2, .ref a3, .int 0])), (g0, .inr (10, [.int 0, .ref b1, .ref b2, .ref b3, .ref b4, .ref b1, .int 0, .int 0, .int 0, .int 0, .int 0, .int 0, .int 0, .int 0, .int 0, .int 0, .ref (ad 5), .ref (ad 7), .int 0, .ref b19, .ref b20, .ref b21, .ref b22, .ref b23, .ref b24, .ref b25, .int 0, .int 0, .ref b28, .ref b29, .ref b30, .ref b31, .ref b32, .ref b33, .ref b34, .ref b35, .ref b36, .int 0, .int 0, .long 0, .ref b40, .ref b41, .ref b42, .ref b43, .ref b44, .int 0, .ref b46, .ref b47, .ref b48, .ref b49, .ref b50, .int 0])), (b1, .inl (y1, 120, .inl (fun _ => 0))), (b19, .inl (y19, 10, .inl (fun _ => 0))), (b20, .inl (y20, 10, .inl (fun _ => 0))), (b21, .inl (y21, 10, .inl (fun _ => 0))), (b22, .inl (y22, 10, .inl (fun _ => 0))), (b23, .inl (y23, 10, .inl (fun _ => 0))), (b24, .inl (y24, 4, .inl (fun _ => 0))), (b25, .inl (y25, 10, .inl (fun _ => 0))), (o0, .inl (cO, 1, .inr (.inl (fun _ => 0))))] H) (hD : va_D (fun q : Nat => s.heap.size ≤ q) [(h0, .inr (9, [.ref jT, .ref jR, .ref e2, .ref jL, .ref jU, .ref jF, .ref e6, .ref jN, .ref jA, .ref e9])), (jT, .inr (8, [.ref t0, .int 0])), (t0, .inl (cC, 120, .inl (fun _ => 0))), (jR, .inr (4, [.ref jT, .ref r1, .ref r2, .int 0, .int 0, .int 0, .ref (ad 0), .ref (ad 0)])), (jL, .inr (7, [.ref l0, .int 0])), (l0, .inl (cL, 6, .inr (.inr (.inr (.inr (fun _ => none)))))), (jU, .inr (7, [.ref m0, .int 0])), (m0, .inl (cM, 8, .inr (.inr (.inr (.inr (fun _ => none)))))), (jF, .inr (2, [.ref f0, .ref f1, .ref f2, .ref f3, .ref f4, .int 0, .int 0, .int 0])), (f0, .inl (z0, 10, .inl (fun _ => 0))), (f1, .inl (z1, 10, .inl (fun _ => 0))), (f2, .inl (z2, 10, .inl (fun _ => 0))), (f4, .inl (z4, 4, .inl (fun _ => 0))), (jN, .inr (3, [.ref n0, .ref n1, .ref n2, .ref n3, .ref n4, .int 0])), (jA, .inr (0, [.ref a0, .ref a1, .ref a2, .ref a3, .int 0])), (g0, .inr (10, [.int 0, .ref b1, .ref b2, .ref b3, .ref b4, .ref b1, .int 0, .int 0, .int 0, .int 0, .int 0, .int 0, .int 0, .int 0, .int 0, .int 0, .ref (ad 5), .ref (ad 7), .int 0, .ref b19, .ref b20, .ref b21, .ref b22, .ref b23, .ref b24, .ref b25, .int 0, .int 0, .ref b28, .ref b29, .ref b30, .ref b31, .ref b32, .ref b33, .ref b34, .ref b35, .ref b36, .int 0, .int 0, .long 0, .ref b40, .ref b41, .ref b42, .ref b43, .ref b44, .int 0, .ref b46, .ref b47, .ref b48, .ref b49, .ref b50, .int 0])), (b1, .inl (y1, 120, .inl (fun _ => 0))), (b19, .inl (y19, 10, .inl (fun _ => 0))), (b20, .inl (y20, 10, .inl (fun _ => 0))), (b21, .inl (y21, 10, .inl (fun _ => 0))), (b22, .inl (y22, 10, .inl (fun _ => 0))), (b23, .inl (y23, 10, .inl (fun _ => 0))), (b24, .inl (y24, 4, .inl (fun _ => 0))), (b25, .inl (y25, 10, .inl (fun _ => 0))), (o0, .inl (cO, 1, .inr (.inl (fun _ => 0))))]) (hS : va_S (fun q : Nat => s.heap.size ≤ q) s.heap H locs) {ls : Array Slot} (hl : lv_has ls 7 [(4, .int 0), (3, .ref o0), (2, .ref g0), (1, .ref h0), (0, .ref b)]) (hlt : l.stackTraces = false) : W p l e room_1 s m #[Value.ref b] below meth c H locs 76 3048 (lw_Z below #[Value.ref b] s) (F0 m 527 ls []) := by
  obtain ⟨hx, hb, hr, hml, hown, hts, hX, hbl, hlocks, hgv⟩ := id C0
  have hown : s.vm.findClass RL = some m.cls := hown
  have hA : ∀ q : Nat, s.heap.size ≤ q → (fun q : Nat => s.heap.size ≤ q) q := fun _ h => h
  have hbA : ¬ (fun q : Nat => s.heap.size ≤ q) b := Nat.not_le.mpr hbl
  refine lv_aload_n hx hb dL_law_527 rfl (lv_at hl 3 rfl) ?_
  refine lv_aload_n hx hb dL_law_528 rfl (lv_at hl 4 rfl) ?_
  refine lv_iload hx hb dL_law_529 (lv_at hl 0 rfl) ?_
  refine lv_iconst (v := 1) hx hb dL_law_531 (by decide) ?_
  refine lv_iadd hx hb dL_law_532 ?_
  refine lv_topi (fun y_1 ey_1 => ?_)
  obtain rfl : y_1 = 1 := ey_1.trans (by decide)
  refine va_sld hx hb hX hbl hbA hS (by unfold vp_in; decide) dL_law_533 ?_
  refine lv_aload_n hx hb dL_law_534 rfl (lv_at hl 4 rfl) ?_
  refine lv_iload hx hb dL_law_535 (lv_at hl 0 rfl) ?_
  refine lv_iconst (v := 2) hx hb dL_law_537 (by decide) ?_
  refine lv_iadd hx hb dL_law_538 ?_
  refine lv_topi (fun y_2 ey_2 => ?_)
  obtain rfl : y_2 = 2 := ey_2.trans (by decide)
  refine va_sld hx hb hX hbl hbA hS (by unfold vp_in; decide) dL_law_539 ?_
  obtain ⟨z_3, ez_3⟩ : ∃ z : Int64, z = Int32.toInt64 (xs (Int32.toNatClampNeg 2)) := ⟨_, rfl⟩
  refine lv_i2l (v := z_3) hx hb dL_law_540 ez_3.symm ?_
  refine lv_bipush (v := 32) hx hb dL_law_541 (by decide) ?_
  refine lv_lshl (v := z_3 <<< (Int32.toInt64 32 &&& 63)) hx hb dL_law_543 rfl ?_
  refine lv_topl (fun z_4 ez_4 => ?_)
  refine lv_aload_n hx hb dL_law_544 rfl (lv_at hl 4 rfl) ?_
  refine lv_iload hx hb dL_law_545 (lv_at hl 0 rfl) ?_
  refine lv_iconst (v := 3) hx hb dL_law_547 (by decide) ?_
  refine lv_iadd hx hb dL_law_548 ?_
  refine lv_topi (fun y_5 ey_5 => ?_)
  obtain rfl : y_5 = 3 := ey_5.trans (by decide)
  refine va_sld hx hb hX hbl hbA hS (by unfold vp_in; decide) dL_law_549 ?_
  obtain ⟨z_6, ez_6⟩ : ∃ z : Int64, z = Int32.toInt64 (xs (Int32.toNatClampNeg 3)) := ⟨_, rfl⟩
  refine lv_i2l (v := z_6) hx hb dL_law_550 ez_6.symm ?_
  refine lv_ldc2 (v := 4294967295) hx hb hown (hts (.constantLong RL 62 (4294967295)) tw_1577) dL_law_551 ?_
  refine lv_land hx hb dL_law_554 ?_
  refine lv_topl (fun z_7 ez_7 => ?_)
  refine lv_lor hx hb dL_law_555 ?_
  refine lv_topl (fun z_8 ez_8 => ?_)
  refine lv_aload_n hx hb dL_law_556 rfl (lv_at hl 4 rfl) ?_
  refine lv_iload hx hb dL_law_557 (lv_at hl 0 rfl) ?_
  refine lv_iconst (v := 4) hx hb dL_law_559 (by decide) ?_
  refine lv_iadd hx hb dL_law_560 ?_
  refine lv_topi (fun y_9 ey_9 => ?_)
  obtain rfl : y_9 = 4 := ey_9.trans (by decide)
  refine va_sld hx hb hX hbl hbA hS (by unfold vp_in; decide) dL_law_561 ?_
  refine lv_aload_n hx hb dL_law_562 rfl (lv_at hl 4 rfl) ?_
  refine lv_iload hx hb dL_law_563 (lv_at hl 0 rfl) ?_
  refine lv_iconst (v := 5) hx hb dL_law_565 (by decide) ?_
  refine lv_iadd hx hb dL_law_566 ?_
  refine lv_topi (fun y_10 ey_10 => ?_)
  obtain rfl : y_10 = 5 := ey_10.trans (by decide)
  refine va_sld hx hb hX hbl hbA hS (by unfold vp_in; decide) dL_law_567 ?_
  refine lv_aload_n hx hb dL_law_568 rfl (lv_at hl 4 rfl) ?_
  refine lv_iload hx hb dL_law_569 (lv_at hl 0 rfl) ?_
  refine lv_bipush (v := 6) hx hb dL_law_571 (by decide) ?_
  refine lv_iadd hx hb dL_law_573 ?_
  refine lv_topi (fun y_11 ey_11 => ?_)
  obtain rfl : y_11 = 6 := ey_11.trans (by decide)
  refine va_sld hx hb hX hbl hbA hS (by unfold vp_in; decide) dL_law_574 ?_
  have hPc := hP.sub (ws' := [(h0, .inr (9, [.ref jT, .ref jR, .ref e2, .ref jL, .ref jU, .ref jF, .ref e6, .ref jN, .ref jA, .ref e9])), (jL, .inr (7, [.ref l0, .int 0]))]) [0, 4] rfl
  have hKc := hK.sub (tys' := []) [] rfl
  refine vp_callSi (va_runV (As := [.int (xs (Int32.toNatClampNeg 1)), .long z_8, .int (xs (Int32.toNatClampNeg 4)), .int (xs (Int32.toNatClampNeg 5)), .int (xs (Int32.toNatClampNeg 6))]) (rest := []) ⟨hx, hb, hml, hown, hts⟩ (c_run9 l dC dI h0 jL (.ref jT : Value) (.ref jR : Value) (.ref e2 : Value) (.ref jU : Value) (.ref jF : Value) (.ref e6 : Value) (.ref jN : Value) (.ref jA : Value) (.ref e9 : Value) (.ref l0 : Value) (xs (Int32.toNatClampNeg 1)) z_8 (xs (Int32.toNatClampNeg 4)) (xs (Int32.toNatClampNeg 5)) (xs (Int32.toNatClampNeg 6))) (cwV 5 hts (kG (List.forall_mem_cons.mpr ⟨tw_635, (List.forall_mem_cons.mpr ⟨tw_636, (List.forall_mem_cons.mpr ⟨tw_637, (List.forall_mem_cons.mpr ⟨tw_75, (fun _ h => absurd h List.not_mem_nil)⟩)⟩)⟩)⟩) (by decide +kernel) in_w_c_run9 gw_c_run9) rfl rfl rfl (by decide +kernel) ⟨(Nat.le_of_ble_eq_true rfl), (Nat.le_of_ble_eq_true rfl)⟩) (kR_V kT_blind kT_give (va_recv hKc hPc (ci := 9) (q0 := 0) rfl rfl) hPc hKc) rfl rfl hl.1 rfl (lv_room (Nat.le_of_ble_eq_true rfl)) dL_law_575 ⟨(Nat.le_of_ble_eq_true rfl), (Nat.le_of_ble_eq_true rfl)⟩).run (fun r_12 hw => ?_)
  obtain rfl : r_12 = (-1000) := hw
  refine lv_aload_n hx hb dL_law_578 rfl (lv_at hl 2 rfl) ?_
  refine lv_aload_n hx hb dL_law_579 rfl (lv_at hl 4 rfl) ?_
  refine lv_iload hx hb dL_law_580 (lv_at hl 0 rfl) ?_
  refine lv_iconst (v := 1) hx hb dL_law_582 (by decide) ?_
  refine lv_iadd hx hb dL_law_583 ?_
  refine lv_topi (fun y_13 ey_13 => ?_)
  obtain rfl : y_13 = 1 := ey_13.trans (by decide)
  refine va_sld hx hb hX hbl hbA hS (by unfold vp_in; decide) dL_law_584 ?_
  refine lv_aload_n hx hb dL_law_585 rfl (lv_at hl 4 rfl) ?_
  refine lv_iload hx hb dL_law_586 (lv_at hl 0 rfl) ?_
  refine lv_iconst (v := 2) hx hb dL_law_588 (by decide) ?_
  refine lv_iadd hx hb dL_law_589 ?_
  refine lv_topi (fun y_14 ey_14 => ?_)
  obtain rfl : y_14 = 2 := ey_14.trans (by decide)
  refine va_sld hx hb hX hbl hbA hS (by unfold vp_in; decide) dL_law_590 ?_
  obtain ⟨z_15, ez_15⟩ : ∃ z : Int64, z = Int32.toInt64 (xs (Int32.toNatClampNeg 2)) := ⟨_, rfl⟩
  refine lv_i2l (v := z_15) hx hb dL_law_591 ez_15.symm ?_
  refine lv_bipush (v := 32) hx hb dL_law_592 (by decide) ?_
  refine lv_lshl (v := z_15 <<< (Int32.toInt64 32 &&& 63)) hx hb dL_law_594 rfl ?_
  refine lv_topl (fun z_16 ez_16 => ?_)
  refine lv_aload_n hx hb dL_law_595 rfl (lv_at hl 4 rfl) ?_
  refine lv_iload hx hb dL_law_596 (lv_at hl 0 rfl) ?_
  refine lv_iconst (v := 3) hx hb dL_law_598 (by decide) ?_
  refine lv_iadd hx hb dL_law_599 ?_
  refine lv_topi (fun y_17 ey_17 => ?_)
  obtain rfl : y_17 = 3 := ey_17.trans (by decide)
  refine va_sld hx hb hX hbl hbA hS (by unfold vp_in; decide) dL_law_600 ?_
  obtain ⟨z_18, ez_18⟩ : ∃ z : Int64, z = Int32.toInt64 (xs (Int32.toNatClampNeg 3)) := ⟨_, rfl⟩
  refine lv_i2l (v := z_18) hx hb dL_law_601 ez_18.symm ?_
  refine lv_ldc2 (v := 4294967295) hx hb hown (hts (.constantLong RL 62 (4294967295)) tw_1577) dL_law_602 ?_
  refine lv_land hx hb dL_law_605 ?_
  refine lv_topl (fun z_19 ez_19 => ?_)
  refine lv_lor hx hb dL_law_606 ?_
  refine lv_topl (fun z_20 ez_20 => ?_)
  refine lv_aload_n hx hb dL_law_607 rfl (lv_at hl 4 rfl) ?_
  refine lv_iload hx hb dL_law_608 (lv_at hl 0 rfl) ?_
  refine lv_iconst (v := 4) hx hb dL_law_610 (by decide) ?_
  refine lv_iadd hx hb dL_law_611 ?_
  refine lv_topi (fun y_21 ey_21 => ?_)
  obtain rfl : y_21 = 4 := ey_21.trans (by decide)
  refine va_sld hx hb hX hbl hbA hS (by unfold vp_in; decide) dL_law_612 ?_
  refine lv_aload_n hx hb dL_law_613 rfl (lv_at hl 4 rfl) ?_
  refine lv_iload hx hb dL_law_614 (lv_at hl 0 rfl) ?_
  refine lv_iconst (v := 5) hx hb dL_law_616 (by decide) ?_
  refine lv_iadd hx hb dL_law_617 ?_
  refine lv_topi (fun y_22 ey_22 => ?_)
  obtain rfl : y_22 = 5 := ey_22.trans (by decide)
  refine va_sld hx hb hX hbl hbA hS (by unfold vp_in; decide) dL_law_618 ?_
  refine lv_aload_n hx hb dL_law_619 rfl (lv_at hl 4 rfl) ?_
  refine lv_iload hx hb dL_law_620 (lv_at hl 0 rfl) ?_
  refine lv_bipush (v := 6) hx hb dL_law_622 (by decide) ?_
  refine lv_iadd hx hb dL_law_624 ?_
  refine lv_topi (fun y_23 ey_23 => ?_)
  obtain rfl : y_23 = 6 := ey_23.trans (by decide)
  refine va_sld hx hb hX hbl hbA hS (by unfold vp_in; decide) dL_law_625 ?_
  have hPc := hP.sub (ws' := [(g0, .inr (10, [.int 0, .ref b1, .ref b2, .ref b3, .ref b4, .ref b1, .int 0, .int 0, .int 0, .int 0, .int 0, .int 0, .int 0, .int 0, .int 0, .int 0, .ref (ad 5), .ref (ad 7), .int 0, .ref b19, .ref b20, .ref b21, .ref b22, .ref b23, .ref b24, .ref b25, .int 0, .int 0, .ref b28, .ref b29, .ref b30, .ref b31, .ref b32, .ref b33, .ref b34, .ref b35, .ref b36, .int 0, .int 0, .long 0, .ref b40, .ref b41, .ref b42, .ref b43, .ref b44, .int 0, .ref b46, .ref b47, .ref b48, .ref b49, .ref b50, .int 0]))]) [15] rfl
  have hKc := hK.sub (tys' := []) [] rfl
  have hDc := hD.sub (ws' := [(g0, .inr (10, [.int 0, .ref b1, .ref b2, .ref b3, .ref b4, .ref b1, .int 0, .int 0, .int 0, .int 0, .int 0, .int 0, .int 0, .int 0, .int 0, .int 0, .ref (ad 5), .ref (ad 7), .int 0, .ref b19, .ref b20, .ref b21, .ref b22, .ref b23, .ref b24, .ref b25, .int 0, .int 0, .ref b28, .ref b29, .ref b30, .ref b31, .ref b32, .ref b33, .ref b34, .ref b35, .ref b36, .int 0, .int 0, .long 0, .ref b40, .ref b41, .ref b42, .ref b43, .ref b44, .int 0, .ref b46, .ref b47, .ref b48, .ref b49, .ref b50, .int 0]))]) [15] (by decide) rfl
  have hFc := va_free (wc := [(g0, .inr (10, [.int 0, .ref b1, .ref b2, .ref b3, .ref b4, .ref b1, .int 0, .int 0, .int 0, .int 0, .int 0, .int 0, .int 0, .int 0, .int 0, .int 0, .ref (ad 5), .ref (ad 7), .int 0, .ref b19, .ref b20, .ref b21, .ref b22, .ref b23, .ref b24, .ref b25, .int 0, .int 0, .ref b28, .ref b29, .ref b30, .ref b31, .ref b32, .ref b33, .ref b34, .ref b35, .ref b36, .int 0, .int 0, .long 0, .ref b40, .ref b41, .ref b42, .ref b43, .ref b44, .int 0, .ref b46, .ref b47, .ref b48, .ref b49, .ref b50, .int 0]))]) hD hS hA [15] rfl
  refine va_calli (va_runV (As := [.int (xs (Int32.toNatClampNeg 1)), .long z_20, .int (xs (Int32.toNatClampNeg 4)), .int (xs (Int32.toNatClampNeg 5)), .int (xs (Int32.toNatClampNeg 6))]) (rest := [.int (-1000)]) ⟨hx, hb, hml, hown, hts⟩ (c_run10 l dC dI g0 (.int 0 : Value) (.ref b1 : Value) (.ref b2 : Value) (.ref b3 : Value) (.ref b4 : Value) (.ref b1 : Value) (.int 0 : Value) (.int 0 : Value) (.int 0 : Value) (.int 0 : Value) (.int 0 : Value) (.int 0 : Value) (.int 0 : Value) (.int 0 : Value) (.int 0 : Value) (.ref (ad 5) : Value) (.ref (ad 7) : Value) (.int 0 : Value) (.ref b19 : Value) (.ref b20 : Value) (.ref b21 : Value) (.ref b22 : Value) (.ref b23 : Value) (.ref b24 : Value) (.ref b25 : Value) (.int 0 : Value) (.int 0 : Value) (.ref b28 : Value) (.ref b29 : Value) (.ref b30 : Value) (.ref b31 : Value) (.ref b32 : Value) (.ref b33 : Value) (.ref b34 : Value) (.ref b35 : Value) (.ref b36 : Value) (.int 0 : Value) (.int 0 : Value) (.long 0 : Value) (.ref b40 : Value) (.ref b41 : Value) (.ref b42 : Value) (.ref b43 : Value) (.ref b44 : Value) (.int 0 : Value) (.ref b46 : Value) (.ref b47 : Value) (.ref b48 : Value) (.ref b49 : Value) (.ref b50 : Value) (.int 0 : Value) (xs (Int32.toNatClampNeg 1)) z_20 (xs (Int32.toNatClampNeg 4)) (xs (Int32.toNatClampNeg 5)) (xs (Int32.toNatClampNeg 6)) H.size) (cwV 5 hts (kG (List.forall_mem_cons.mpr ⟨tw_1411, (List.forall_mem_cons.mpr ⟨tw_1412, (List.forall_mem_cons.mpr ⟨tw_1413, (List.forall_mem_cons.mpr ⟨tw_85, (fun _ h => absurd h List.not_mem_nil)⟩)⟩)⟩)⟩) (by decide +kernel) in_w_c_run10 gw_c_run10) rfl rfl rfl (by decide +kernel) ⟨(Nat.le_of_ble_eq_true rfl), (Nat.le_of_ble_eq_true rfl)⟩) (kW_V kT_blind kT_give (va_recv hKc hPc (ci := 10) (q0 := 0) rfl rfl) hPc hKc hDc) rfl rfl hl.1 rfl (lv_room (Nat.le_of_ble_eq_true rfl)) dL_law_626 ⟨(Nat.le_of_ble_eq_true rfl), (Nat.le_of_ble_eq_true rfl)⟩) hS (fun q _ h => hFc q h) hFc (fun r_24 u t H1 locs ht hvm hw hB hz1 hk1 hS => ?_)
  have hP1 : va_P (dC, dI) vwCl [] H1 := fun k q h => by simp at h
  have hD1 : va_D (va_A [(g0, .inr (10, [.int 0, .ref b1, .ref b2, .ref b3, .ref b4, .ref b1, .int 0, .int 0, .int 0, .int 0, .int 0, .int 0, .int 0, .int 0, .int 0, .int 0, .ref (ad 5), .ref (ad 7), .int 0, .ref b19, .ref b20, .ref b21, .ref b22, .ref b23, .ref b24, .ref b25, .int 0, .int 0, .ref b28, .ref b29, .ref b30, .ref b31, .ref b32, .ref b33, .ref b34, .ref b35, .ref b36, .int 0, .int 0, .long 0, .ref b40, .ref b41, .ref b42, .ref b43, .ref b44, .int 0, .ref b46, .ref b47, .ref b48, .ref b49, .ref b50, .int 0]))] H.size) [] := ⟨fun i j p q h => by simp at h, fun k q h => by simp at h⟩
  try dsimp only at hw
  obtain ⟨hP, hD⟩ := va_join (wr := [(h0, .inr (9, [.ref jT, .ref jR, .ref e2, .ref jL, .ref jU, .ref jF, .ref e6, .ref jN, .ref jA, .ref e9])), (jT, .inr (8, [.ref t0, .int 0])), (t0, .inl (cC, 120, .inl (fun _ => 0))), (jR, .inr (4, [.ref jT, .ref r1, .ref r2, .int 0, .int 0, .int 0, .ref (ad 0), .ref (ad 0)])), (jL, .inr (7, [.ref l0, .int 0])), (l0, .inl (cL, 6, .inr (.inr (.inr (.inr (fun _ => none)))))), (jU, .inr (7, [.ref m0, .int 0])), (m0, .inl (cM, 8, .inr (.inr (.inr (.inr (fun _ => none)))))), (jF, .inr (2, [.ref f0, .ref f1, .ref f2, .ref f3, .ref f4, .int 0, .int 0, .int 0])), (f0, .inl (z0, 10, .inl (fun _ => 0))), (f1, .inl (z1, 10, .inl (fun _ => 0))), (f2, .inl (z2, 10, .inl (fun _ => 0))), (f4, .inl (z4, 4, .inl (fun _ => 0))), (jN, .inr (3, [.ref n0, .ref n1, .ref n2, .ref n3, .ref n4, .int 0])), (jA, .inr (0, [.ref a0, .ref a1, .ref a2, .ref a3, .int 0])), (b1, .inl (y1, 120, .inl (fun _ => 0))), (b19, .inl (y19, 10, .inl (fun _ => 0))), (b20, .inl (y20, 10, .inl (fun _ => 0))), (b21, .inl (y21, 10, .inl (fun _ => 0))), (b22, .inl (y22, 10, .inl (fun _ => 0))), (b23, .inl (y23, 10, .inl (fun _ => 0))), (b24, .inl (y24, 4, .inl (fun _ => 0))), (b25, .inl (y25, 10, .inl (fun _ => 0))), (o0, .inl (cO, 1, .inr (.inl (fun _ => 0))))]) (w1 := []) hP hD [15] [0, 1, 2, 3, 4, 5, 6, 7, 8, 9, 10, 11, 12, 13, 14, 16, 17, 18, 19, 20, 21, 22, 23, 24] rfl rfl (by decide) (by decide) hk1 hFc hP1 hD1
  generalize H1 = H at hP hS ⊢
  have hP : va_P (dC, dI) vwCl [(h0, .inr (9, [.ref jT, .ref jR, .ref e2, .ref jL, .ref jU, .ref jF, .ref e6, .ref jN, .ref jA, .ref e9])), (jT, .inr (8, [.ref t0, .int 0])), (t0, .inl (cC, 120, .inl (fun _ => 0))), (jR, .inr (4, [.ref jT, .ref r1, .ref r2, .int 0, .int 0, .int 0, .ref (ad 0), .ref (ad 0)])), (jL, .inr (7, [.ref l0, .int 0])), (l0, .inl (cL, 6, .inr (.inr (.inr (.inr (fun _ => none)))))), (jU, .inr (7, [.ref m0, .int 0])), (m0, .inl (cM, 8, .inr (.inr (.inr (.inr (fun _ => none)))))), (jF, .inr (2, [.ref f0, .ref f1, .ref f2, .ref f3, .ref f4, .int 0, .int 0, .int 0])), (f0, .inl (z0, 10, .inl (fun _ => 0))), (f1, .inl (z1, 10, .inl (fun _ => 0))), (f2, .inl (z2, 10, .inl (fun _ => 0))), (f4, .inl (z4, 4, .inl (fun _ => 0))), (jN, .inr (3, [.ref n0, .ref n1, .ref n2, .ref n3, .ref n4, .int 0])), (jA, .inr (0, [.ref a0, .ref a1, .ref a2, .ref a3, .int 0])), (b1, .inl (y1, 120, .inl (fun _ => 0))), (b19, .inl (y19, 10, .inl (fun _ => 0))), (b20, .inl (y20, 10, .inl (fun _ => 0))), (b21, .inl (y21, 10, .inl (fun _ => 0))), (b22, .inl (y22, 10, .inl (fun _ => 0))), (b23, .inl (y23, 10, .inl (fun _ => 0))), (b24, .inl (y24, 4, .inl (fun _ => 0))), (b25, .inl (y25, 10, .inl (fun _ => 0))), (o0, .inl (cO, 1, .inr (.inl (fun _ => 0))))] H := hP
  have hD : va_D (fun q : Nat => s.heap.size ≤ q) [(h0, .inr (9, [.ref jT, .ref jR, .ref e2, .ref jL, .ref jU, .ref jF, .ref e6, .ref jN, .ref jA, .ref e9])), (jT, .inr (8, [.ref t0, .int 0])), (t0, .inl (cC, 120, .inl (fun _ => 0))), (jR, .inr (4, [.ref jT, .ref r1, .ref r2, .int 0, .int 0, .int 0, .ref (ad 0), .ref (ad 0)])), (jL, .inr (7, [.ref l0, .int 0])), (l0, .inl (cL, 6, .inr (.inr (.inr (.inr (fun _ => none)))))), (jU, .inr (7, [.ref m0, .int 0])), (m0, .inl (cM, 8, .inr (.inr (.inr (.inr (fun _ => none)))))), (jF, .inr (2, [.ref f0, .ref f1, .ref f2, .ref f3, .ref f4, .int 0, .int 0, .int 0])), (f0, .inl (z0, 10, .inl (fun _ => 0))), (f1, .inl (z1, 10, .inl (fun _ => 0))), (f2, .inl (z2, 10, .inl (fun _ => 0))), (f4, .inl (z4, 4, .inl (fun _ => 0))), (jN, .inr (3, [.ref n0, .ref n1, .ref n2, .ref n3, .ref n4, .int 0])), (jA, .inr (0, [.ref a0, .ref a1, .ref a2, .ref a3, .int 0])), (b1, .inl (y1, 120, .inl (fun _ => 0))), (b19, .inl (y19, 10, .inl (fun _ => 0))), (b20, .inl (y20, 10, .inl (fun _ => 0))), (b21, .inl (y21, 10, .inl (fun _ => 0))), (b22, .inl (y22, 10, .inl (fun _ => 0))), (b23, .inl (y23, 10, .inl (fun _ => 0))), (b24, .inl (y24, 4, .inl (fun _ => 0))), (b25, .inl (y25, 10, .inl (fun _ => 0))), (o0, .inl (cO, 1, .inr (.inl (fun _ => 0))))] := hD
  obtain rfl : r_24 = (-1000) := hw
  refine lv_icmp_eq (tgt := 1792) hx hb dL_law_629 (by decide) (fun c_25 => ?_) (fun c_25 => absurd (by decide) c_25)
  exact law_tail C0 hS (Nat.le_of_ble_eq_true rfl) (Nat.le_of_ble_eq_true rfl) (lv_sub hl [0, 1, 2, 3, 4] rfl)

theorem dL_law_634 : decode cL_law 634 = .ok (.aload_n 1, 1) := by decide +kernel
theorem dL_law_635 : decode cL_law 635 = .ok (.aload_n 0, 1) := by decide +kernel
theorem dL_law_636 : decode cL_law 636 = .ok (.iload 4, 2) := by decide +kernel
theorem dL_law_638 : decode cL_law 638 = .ok (.iconst 1, 1) := by decide +kernel
theorem dL_law_639 : decode cL_law 639 = .ok (.iadd, 1) := by decide +kernel
theorem dL_law_640 : decode cL_law 640 = .ok (.iaload, 1) := by decide +kernel
theorem dL_law_641 : decode cL_law 641 = .ok (.aload_n 0, 1) := by decide +kernel
theorem dL_law_642 : decode cL_law 642 = .ok (.iload 4, 2) := by decide +kernel
theorem dL_law_644 : decode cL_law 644 = .ok (.iconst 2, 1) := by decide +kernel
theorem dL_law_645 : decode cL_law 645 = .ok (.iadd, 1) := by decide +kernel
theorem dL_law_646 : decode cL_law 646 = .ok (.iaload, 1) := by decide +kernel
theorem dL_law_647 : decode cL_law 647 = .ok (.i2l, 1) := by decide +kernel
theorem dL_law_648 : decode cL_law 648 = .ok (.bipush 32, 2) := by decide +kernel
theorem dL_law_650 : decode cL_law 650 = .ok (.lshl, 1) := by decide +kernel
theorem dL_law_651 : decode cL_law 651 = .ok (.aload_n 0, 1) := by decide +kernel
theorem dL_law_652 : decode cL_law 652 = .ok (.iload 4, 2) := by decide +kernel
theorem dL_law_654 : decode cL_law 654 = .ok (.iconst 3, 1) := by decide +kernel
theorem dL_law_655 : decode cL_law 655 = .ok (.iadd, 1) := by decide +kernel
theorem dL_law_656 : decode cL_law 656 = .ok (.iaload, 1) := by decide +kernel
theorem dL_law_657 : decode cL_law 657 = .ok (.i2l, 1) := by decide +kernel
theorem dL_law_658 : decode cL_law 658 = .ok (.ldc2_w 62, 3) := by decide +kernel
theorem dL_law_661 : decode cL_law 661 = .ok (.land, 1) := by decide +kernel
theorem dL_law_662 : decode cL_law 662 = .ok (.lor, 1) := by decide +kernel
theorem dL_law_663 : decode cL_law 663 = .ok (.aload_n 0, 1) := by decide +kernel
theorem dL_law_664 : decode cL_law 664 = .ok (.iload 4, 2) := by decide +kernel
theorem dL_law_666 : decode cL_law 666 = .ok (.iconst 4, 1) := by decide +kernel
theorem dL_law_667 : decode cL_law 667 = .ok (.iadd, 1) := by decide +kernel
theorem dL_law_668 : decode cL_law 668 = .ok (.iaload, 1) := by decide +kernel
theorem dL_law_669 : decode cL_law 669 = .ok (.aload_n 0, 1) := by decide +kernel
theorem dL_law_670 : decode cL_law 670 = .ok (.iload 4, 2) := by decide +kernel
theorem dL_law_672 : decode cL_law 672 = .ok (.iconst 5, 1) := by decide +kernel
theorem dL_law_673 : decode cL_law 673 = .ok (.iadd, 1) := by decide +kernel
theorem dL_law_674 : decode cL_law 674 = .ok (.iaload, 1) := by decide +kernel
theorem dL_law_675 : decode cL_law 675 = .ok (.invokevirtual 69, 3) := by decide +kernel
theorem dL_law_678 : decode cL_law 678 = .ok (.aload_n 2, 1) := by decide +kernel
theorem dL_law_679 : decode cL_law 679 = .ok (.aload_n 0, 1) := by decide +kernel
theorem dL_law_680 : decode cL_law 680 = .ok (.iload 4, 2) := by decide +kernel
theorem dL_law_682 : decode cL_law 682 = .ok (.iconst 1, 1) := by decide +kernel
theorem dL_law_683 : decode cL_law 683 = .ok (.iadd, 1) := by decide +kernel
theorem dL_law_684 : decode cL_law 684 = .ok (.iaload, 1) := by decide +kernel
theorem dL_law_685 : decode cL_law 685 = .ok (.aload_n 0, 1) := by decide +kernel
theorem dL_law_686 : decode cL_law 686 = .ok (.iload 4, 2) := by decide +kernel
theorem dL_law_688 : decode cL_law 688 = .ok (.iconst 2, 1) := by decide +kernel
theorem dL_law_689 : decode cL_law 689 = .ok (.iadd, 1) := by decide +kernel
theorem dL_law_690 : decode cL_law 690 = .ok (.iaload, 1) := by decide +kernel
theorem dL_law_691 : decode cL_law 691 = .ok (.i2l, 1) := by decide +kernel
theorem dL_law_692 : decode cL_law 692 = .ok (.bipush 32, 2) := by decide +kernel
theorem dL_law_694 : decode cL_law 694 = .ok (.lshl, 1) := by decide +kernel
theorem dL_law_695 : decode cL_law 695 = .ok (.aload_n 0, 1) := by decide +kernel
theorem dL_law_696 : decode cL_law 696 = .ok (.iload 4, 2) := by decide +kernel
theorem dL_law_698 : decode cL_law 698 = .ok (.iconst 3, 1) := by decide +kernel
theorem dL_law_699 : decode cL_law 699 = .ok (.iadd, 1) := by decide +kernel
theorem dL_law_700 : decode cL_law 700 = .ok (.iaload, 1) := by decide +kernel
theorem dL_law_701 : decode cL_law 701 = .ok (.i2l, 1) := by decide +kernel
theorem dL_law_702 : decode cL_law 702 = .ok (.ldc2_w 62, 3) := by decide +kernel
theorem dL_law_705 : decode cL_law 705 = .ok (.land, 1) := by decide +kernel
theorem dL_law_706 : decode cL_law 706 = .ok (.lor, 1) := by decide +kernel
theorem dL_law_707 : decode cL_law 707 = .ok (.aload_n 0, 1) := by decide +kernel
theorem dL_law_708 : decode cL_law 708 = .ok (.iload 4, 2) := by decide +kernel
theorem dL_law_710 : decode cL_law 710 = .ok (.iconst 4, 1) := by decide +kernel
theorem dL_law_711 : decode cL_law 711 = .ok (.iadd, 1) := by decide +kernel
theorem dL_law_712 : decode cL_law 712 = .ok (.iaload, 1) := by decide +kernel
theorem dL_law_713 : decode cL_law 713 = .ok (.aload_n 0, 1) := by decide +kernel
theorem dL_law_714 : decode cL_law 714 = .ok (.iload 4, 2) := by decide +kernel
theorem dL_law_716 : decode cL_law 716 = .ok (.iconst 5, 1) := by decide +kernel
theorem dL_law_717 : decode cL_law 717 = .ok (.iadd, 1) := by decide +kernel
theorem dL_law_718 : decode cL_law 718 = .ok (.iaload, 1) := by decide +kernel
theorem dL_law_719 : decode cL_law 719 = .ok (.invokevirtual 73, 3) := by decide +kernel
theorem dL_law_722 : decode cL_law 722 = .ok (.if_icmp .eq 1070, 3) := by decide +kernel
set_option maxHeartbeats 4000000 in
set_option maxRecDepth 100000 in
theorem law_9 {p : Program} {l : Launch} {e : Env} {s : State} {m : MethodId} {below : List Frame} {meth : Method} {c : Code} {b : Nat} {xs : Nat → Int32} {dC : Nat → ClassId} {dI : Nat → Nat → Nat} {ad : Nat → Nat} {h0 : Nat} {g0 : Nat} {o0 : Nat} {jT : Nat} {jR : Nat} {e2 : Nat} {jL : Nat} {jU : Nat} {jF : Nat} {e6 : Nat} {jN : Nat} {jA : Nat} {e9 : Nat} {t0 : Nat} {r1 : Nat} {r2 : Nat} {l0 : Nat} {m0 : Nat} {f0 : Nat} {f1 : Nat} {f2 : Nat} {f3 : Nat} {f4 : Nat} {n0 : Nat} {n1 : Nat} {n2 : Nat} {n3 : Nat} {n4 : Nat} {a0 : Nat} {a1 : Nat} {a2 : Nat} {a3 : Nat} {cC : ClassId} {cL : ClassId} {cM : ClassId} {z0 : ClassId} {z1 : ClassId} {z2 : ClassId} {z4 : ClassId} {b1 : Nat} {b2 : Nat} {b3 : Nat} {b4 : Nat} {b19 : Nat} {b20 : Nat} {b21 : Nat} {b22 : Nat} {b23 : Nat} {b24 : Nat} {b25 : Nat} {b28 : Nat} {b29 : Nat} {b30 : Nat} {b31 : Nat} {b32 : Nat} {b33 : Nat} {b34 : Nat} {b35 : Nat} {b36 : Nat} {b40 : Nat} {b41 : Nat} {b42 : Nat} {b43 : Nat} {b44 : Nat} {b46 : Nat} {b47 : Nat} {b48 : Nat} {b49 : Nat} {b50 : Nat} {y1 : ClassId} {y19 : ClassId} {y20 : ClassId} {y21 : ClassId} {y22 : ClassId} {y23 : ClassId} {y24 : ClassId} {y25 : ClassId} {cO : ClassId} (C0 : lw_At p s m meth c b 7 xs) (hXX : kLaw ad s) {H : Heap} {locs : List Loc} (hK : va_K (dC, dI) vwCl [(cC, .char), (cL, .object RX6), (cM, .object RX6), (z0, .int), (z1, .int), (z2, .int), (z4, .int), (y1, .byte), (y19, .int), (y20, .int), (y21, .int), (y22, .int), (y23, .int), (y24, .int), (y25, .boolean), (cO, .long)] s) (hP : va_P (dC, dI) vwCl [(h0, .inr (9, [.ref jT, .ref jR, .ref e2, .ref jL, .ref jU, .ref jF, .ref e6, .ref jN, .ref jA, .ref e9])), (jT, .inr (8, [.ref t0, .int 0])), (t0, .inl (cC, 120, .inl (fun _ => 0))), (jR, .inr (4, [.ref jT, .ref r1, .ref r2, .int 0, .int 0, .int 0, .ref (ad 0), .ref (ad 0)])), (jL, .inr (7, [.ref l0, .int 0])), (l0, .inl (cL, 6, .inr (.inr (.inr (.inr (fun _ => none)))))), (jU, .inr (7, [.ref m0, .int 0])), (m0, .inl (cM, 8, .inr (.inr (.inr (.inr (fun _ => none)))))), (jF, .inr (2, [.ref f0, .ref f1, .ref f2, .ref f3, .ref f4, .int 0, .int 0, .int 0])), (f0, .inl (z0, 10, .inl (fun _ => 0))), (f1, .inl (z1, 10, .inl (fun _ => 0))), (f2, .inl (z2, 10, .inl (fun _ => 0))), (f4, .inl (z4, 4, .inl (fun _ => 0))), (jN, .inr (3, [.ref n0, .ref n1, .ref n2, .ref n3, .ref n4, .int 0])), (jA, .inr (0, [.ref a0, .ref a1, .ref a2, .ref a3, .int 0])), (g0, .inr (10, [.int 0, .ref b1, .ref b2, .ref b3, .ref b4, .ref b1, .int 0, .int 0, .int 0, .int 0, .int 0, .int 0, .int 0, .int 0, .int 0, .int 0, .ref (ad 5), .ref (ad 7), .int 0, .ref b19, .ref b20, .ref b21, .ref b22, .ref b23, .ref b24, .ref b25, .int 0, .int 0, .ref b28, .ref b29, .ref b30, .ref b31, .ref b32, .ref b33, .ref b34, .ref b35, .ref b36, .int 0, .int 0, .long 0, .ref b40, .ref b41, .ref b42, .ref b43, .ref b44, .int 0, .ref b46, .ref b47, .ref b48, .ref b49, .ref b50, .int 0])), (b1, .inl (y1, 120, .inl (fun _ => 0))), (b19, .inl (y19, 10, .inl (fun _ => 0))), (b20, .inl (y20, 10, .inl (fun _ => 0))), (b21, .inl (y21, 10, .inl (fun _ => 0))), (b22, .inl (y22, 10, .inl (fun _ => 0))), (b23, .inl (y23, 10, .inl (fun _ => 0))), (b24, .inl (y24, 4, .inl (fun _ => 0))), (b25, .inl (y25, 10, .inl (fun _ => 0))), (o0, .inl (cO, 1, .inr (.inl (fun _ => 0))))] H) (hD : va_D (fun q : Nat => s.heap.size ≤ q) [(h0, .inr (9, [.ref jT, .ref jR, .ref e2, .ref jL, .ref jU, .ref jF, .ref e6, .ref jN, .ref jA, .ref e9])), (jT, .inr (8, [.ref t0, .int 0])), (t0, .inl (cC, 120, .inl (fun _ => 0))), (jR, .inr (4, [.ref jT, .ref r1, .ref r2, .int 0, .int 0, .int 0, .ref (ad 0), .ref (ad 0)])), (jL, .inr (7, [.ref l0, .int 0])), (l0, .inl (cL, 6, .inr (.inr (.inr (.inr (fun _ => none)))))), (jU, .inr (7, [.ref m0, .int 0])), (m0, .inl (cM, 8, .inr (.inr (.inr (.inr (fun _ => none)))))), (jF, .inr (2, [.ref f0, .ref f1, .ref f2, .ref f3, .ref f4, .int 0, .int 0, .int 0])), (f0, .inl (z0, 10, .inl (fun _ => 0))), (f1, .inl (z1, 10, .inl (fun _ => 0))), (f2, .inl (z2, 10, .inl (fun _ => 0))), (f4, .inl (z4, 4, .inl (fun _ => 0))), (jN, .inr (3, [.ref n0, .ref n1, .ref n2, .ref n3, .ref n4, .int 0])), (jA, .inr (0, [.ref a0, .ref a1, .ref a2, .ref a3, .int 0])), (g0, .inr (10, [.int 0, .ref b1, .ref b2, .ref b3, .ref b4, .ref b1, .int 0, .int 0, .int 0, .int 0, .int 0, .int 0, .int 0, .int 0, .int 0, .int 0, .ref (ad 5), .ref (ad 7), .int 0, .ref b19, .ref b20, .ref b21, .ref b22, .ref b23, .ref b24, .ref b25, .int 0, .int 0, .ref b28, .ref b29, .ref b30, .ref b31, .ref b32, .ref b33, .ref b34, .ref b35, .ref b36, .int 0, .int 0, .long 0, .ref b40, .ref b41, .ref b42, .ref b43, .ref b44, .int 0, .ref b46, .ref b47, .ref b48, .ref b49, .ref b50, .int 0])), (b1, .inl (y1, 120, .inl (fun _ => 0))), (b19, .inl (y19, 10, .inl (fun _ => 0))), (b20, .inl (y20, 10, .inl (fun _ => 0))), (b21, .inl (y21, 10, .inl (fun _ => 0))), (b22, .inl (y22, 10, .inl (fun _ => 0))), (b23, .inl (y23, 10, .inl (fun _ => 0))), (b24, .inl (y24, 4, .inl (fun _ => 0))), (b25, .inl (y25, 10, .inl (fun _ => 0))), (o0, .inl (cO, 1, .inr (.inl (fun _ => 0))))]) (hS : va_S (fun q : Nat => s.heap.size ≤ q) s.heap H locs) {ls : Array Slot} (hl : lv_has ls 7 [(4, .int 0), (3, .ref o0), (2, .ref g0), (1, .ref h0), (0, .ref b)]) (hlt : l.stackTraces = false) : W p l e room_1 s m #[Value.ref b] below meth c H locs 76 3048 (lw_Z below #[Value.ref b] s) (F0 m 634 ls []) := by
  obtain ⟨hx, hb, hr, hml, hown, hts, hX, hbl, hlocks, hgv⟩ := id C0
  have hown : s.vm.findClass RL = some m.cls := hown
  have hA : ∀ q : Nat, s.heap.size ≤ q → (fun q : Nat => s.heap.size ≤ q) q := fun _ h => h
  have hbA : ¬ (fun q : Nat => s.heap.size ≤ q) b := Nat.not_le.mpr hbl
  refine lv_aload_n hx hb dL_law_634 rfl (lv_at hl 3 rfl) ?_
  refine lv_aload_n hx hb dL_law_635 rfl (lv_at hl 4 rfl) ?_
  refine lv_iload hx hb dL_law_636 (lv_at hl 0 rfl) ?_
  refine lv_iconst (v := 1) hx hb dL_law_638 (by decide) ?_
  refine lv_iadd hx hb dL_law_639 ?_
  refine lv_topi (fun y_1 ey_1 => ?_)
  obtain rfl : y_1 = 1 := ey_1.trans (by decide)
  refine va_sld hx hb hX hbl hbA hS (by unfold vp_in; decide) dL_law_640 ?_
  refine lv_aload_n hx hb dL_law_641 rfl (lv_at hl 4 rfl) ?_
  refine lv_iload hx hb dL_law_642 (lv_at hl 0 rfl) ?_
  refine lv_iconst (v := 2) hx hb dL_law_644 (by decide) ?_
  refine lv_iadd hx hb dL_law_645 ?_
  refine lv_topi (fun y_2 ey_2 => ?_)
  obtain rfl : y_2 = 2 := ey_2.trans (by decide)
  refine va_sld hx hb hX hbl hbA hS (by unfold vp_in; decide) dL_law_646 ?_
  obtain ⟨z_3, ez_3⟩ : ∃ z : Int64, z = Int32.toInt64 (xs (Int32.toNatClampNeg 2)) := ⟨_, rfl⟩
  refine lv_i2l (v := z_3) hx hb dL_law_647 ez_3.symm ?_
  refine lv_bipush (v := 32) hx hb dL_law_648 (by decide) ?_
  refine lv_lshl (v := z_3 <<< (Int32.toInt64 32 &&& 63)) hx hb dL_law_650 rfl ?_
  refine lv_topl (fun z_4 ez_4 => ?_)
  refine lv_aload_n hx hb dL_law_651 rfl (lv_at hl 4 rfl) ?_
  refine lv_iload hx hb dL_law_652 (lv_at hl 0 rfl) ?_
  refine lv_iconst (v := 3) hx hb dL_law_654 (by decide) ?_
  refine lv_iadd hx hb dL_law_655 ?_
  refine lv_topi (fun y_5 ey_5 => ?_)
  obtain rfl : y_5 = 3 := ey_5.trans (by decide)
  refine va_sld hx hb hX hbl hbA hS (by unfold vp_in; decide) dL_law_656 ?_
  obtain ⟨z_6, ez_6⟩ : ∃ z : Int64, z = Int32.toInt64 (xs (Int32.toNatClampNeg 3)) := ⟨_, rfl⟩
  refine lv_i2l (v := z_6) hx hb dL_law_657 ez_6.symm ?_
  refine lv_ldc2 (v := 4294967295) hx hb hown (hts (.constantLong RL 62 (4294967295)) tw_1577) dL_law_658 ?_
  refine lv_land hx hb dL_law_661 ?_
  refine lv_topl (fun z_7 ez_7 => ?_)
  refine lv_lor hx hb dL_law_662 ?_
  refine lv_topl (fun z_8 ez_8 => ?_)
  refine lv_aload_n hx hb dL_law_663 rfl (lv_at hl 4 rfl) ?_
  refine lv_iload hx hb dL_law_664 (lv_at hl 0 rfl) ?_
  refine lv_iconst (v := 4) hx hb dL_law_666 (by decide) ?_
  refine lv_iadd hx hb dL_law_667 ?_
  refine lv_topi (fun y_9 ey_9 => ?_)
  obtain rfl : y_9 = 4 := ey_9.trans (by decide)
  refine va_sld hx hb hX hbl hbA hS (by unfold vp_in; decide) dL_law_668 ?_
  refine lv_aload_n hx hb dL_law_669 rfl (lv_at hl 4 rfl) ?_
  refine lv_iload hx hb dL_law_670 (lv_at hl 0 rfl) ?_
  refine lv_iconst (v := 5) hx hb dL_law_672 (by decide) ?_
  refine lv_iadd hx hb dL_law_673 ?_
  refine lv_topi (fun y_10 ey_10 => ?_)
  obtain rfl : y_10 = 5 := ey_10.trans (by decide)
  refine va_sld hx hb hX hbl hbA hS (by unfold vp_in; decide) dL_law_674 ?_
  have hPc := hP.sub (ws' := [(h0, .inr (9, [.ref jT, .ref jR, .ref e2, .ref jL, .ref jU, .ref jF, .ref e6, .ref jN, .ref jA, .ref e9])), (jL, .inr (7, [.ref l0, .int 0]))]) [0, 4] rfl
  have hKc := hK.sub (tys' := []) [] rfl
  refine vp_callSi (va_runV (As := [.int (xs (Int32.toNatClampNeg 1)), .long z_8, .int (xs (Int32.toNatClampNeg 4)), .int (xs (Int32.toNatClampNeg 5))]) (rest := []) ⟨hx, hb, hml, hown, hts⟩ (c_all9 l dC dI h0 jL (.ref jT : Value) (.ref jR : Value) (.ref e2 : Value) (.ref jU : Value) (.ref jF : Value) (.ref e6 : Value) (.ref jN : Value) (.ref jA : Value) (.ref e9 : Value) (.ref l0 : Value) (xs (Int32.toNatClampNeg 1)) z_8 (xs (Int32.toNatClampNeg 4)) (xs (Int32.toNatClampNeg 5))) (cwV 4 hts (kG (List.forall_mem_cons.mpr ⟨tw_762, (List.forall_mem_cons.mpr ⟨tw_763, (List.forall_mem_cons.mpr ⟨tw_764, (List.forall_mem_cons.mpr ⟨tw_75, (fun _ h => absurd h List.not_mem_nil)⟩)⟩)⟩)⟩) (by decide +kernel) in_w_c_all9 gw_c_all9) rfl rfl rfl (by decide +kernel) ⟨(Nat.le_of_ble_eq_true rfl), (Nat.le_of_ble_eq_true rfl)⟩) (kR_V kT_blind kT_give (va_recv hKc hPc (ci := 9) (q0 := 0) rfl rfl) hPc hKc) rfl rfl hl.1 rfl (lv_room (Nat.le_of_ble_eq_true rfl)) dL_law_675 ⟨(Nat.le_of_ble_eq_true rfl), (Nat.le_of_ble_eq_true rfl)⟩).run (fun r_11 hw => ?_)
  obtain rfl : r_11 = (-1) := hw
  refine lv_aload_n hx hb dL_law_678 rfl (lv_at hl 2 rfl) ?_
  refine lv_aload_n hx hb dL_law_679 rfl (lv_at hl 4 rfl) ?_
  refine lv_iload hx hb dL_law_680 (lv_at hl 0 rfl) ?_
  refine lv_iconst (v := 1) hx hb dL_law_682 (by decide) ?_
  refine lv_iadd hx hb dL_law_683 ?_
  refine lv_topi (fun y_12 ey_12 => ?_)
  obtain rfl : y_12 = 1 := ey_12.trans (by decide)
  refine va_sld hx hb hX hbl hbA hS (by unfold vp_in; decide) dL_law_684 ?_
  refine lv_aload_n hx hb dL_law_685 rfl (lv_at hl 4 rfl) ?_
  refine lv_iload hx hb dL_law_686 (lv_at hl 0 rfl) ?_
  refine lv_iconst (v := 2) hx hb dL_law_688 (by decide) ?_
  refine lv_iadd hx hb dL_law_689 ?_
  refine lv_topi (fun y_13 ey_13 => ?_)
  obtain rfl : y_13 = 2 := ey_13.trans (by decide)
  refine va_sld hx hb hX hbl hbA hS (by unfold vp_in; decide) dL_law_690 ?_
  obtain ⟨z_14, ez_14⟩ : ∃ z : Int64, z = Int32.toInt64 (xs (Int32.toNatClampNeg 2)) := ⟨_, rfl⟩
  refine lv_i2l (v := z_14) hx hb dL_law_691 ez_14.symm ?_
  refine lv_bipush (v := 32) hx hb dL_law_692 (by decide) ?_
  refine lv_lshl (v := z_14 <<< (Int32.toInt64 32 &&& 63)) hx hb dL_law_694 rfl ?_
  refine lv_topl (fun z_15 ez_15 => ?_)
  refine lv_aload_n hx hb dL_law_695 rfl (lv_at hl 4 rfl) ?_
  refine lv_iload hx hb dL_law_696 (lv_at hl 0 rfl) ?_
  refine lv_iconst (v := 3) hx hb dL_law_698 (by decide) ?_
  refine lv_iadd hx hb dL_law_699 ?_
  refine lv_topi (fun y_16 ey_16 => ?_)
  obtain rfl : y_16 = 3 := ey_16.trans (by decide)
  refine va_sld hx hb hX hbl hbA hS (by unfold vp_in; decide) dL_law_700 ?_
  obtain ⟨z_17, ez_17⟩ : ∃ z : Int64, z = Int32.toInt64 (xs (Int32.toNatClampNeg 3)) := ⟨_, rfl⟩
  refine lv_i2l (v := z_17) hx hb dL_law_701 ez_17.symm ?_
  refine lv_ldc2 (v := 4294967295) hx hb hown (hts (.constantLong RL 62 (4294967295)) tw_1577) dL_law_702 ?_
  refine lv_land hx hb dL_law_705 ?_
  refine lv_topl (fun z_18 ez_18 => ?_)
  refine lv_lor hx hb dL_law_706 ?_
  refine lv_topl (fun z_19 ez_19 => ?_)
  refine lv_aload_n hx hb dL_law_707 rfl (lv_at hl 4 rfl) ?_
  refine lv_iload hx hb dL_law_708 (lv_at hl 0 rfl) ?_
  refine lv_iconst (v := 4) hx hb dL_law_710 (by decide) ?_
  refine lv_iadd hx hb dL_law_711 ?_
  refine lv_topi (fun y_20 ey_20 => ?_)
  obtain rfl : y_20 = 4 := ey_20.trans (by decide)
  refine va_sld hx hb hX hbl hbA hS (by unfold vp_in; decide) dL_law_712 ?_
  refine lv_aload_n hx hb dL_law_713 rfl (lv_at hl 4 rfl) ?_
  refine lv_iload hx hb dL_law_714 (lv_at hl 0 rfl) ?_
  refine lv_iconst (v := 5) hx hb dL_law_716 (by decide) ?_
  refine lv_iadd hx hb dL_law_717 ?_
  refine lv_topi (fun y_21 ey_21 => ?_)
  obtain rfl : y_21 = 5 := ey_21.trans (by decide)
  refine va_sld hx hb hX hbl hbA hS (by unfold vp_in; decide) dL_law_718 ?_
  have hPc := hP.sub (ws' := [(g0, .inr (10, [.int 0, .ref b1, .ref b2, .ref b3, .ref b4, .ref b1, .int 0, .int 0, .int 0, .int 0, .int 0, .int 0, .int 0, .int 0, .int 0, .int 0, .ref (ad 5), .ref (ad 7), .int 0, .ref b19, .ref b20, .ref b21, .ref b22, .ref b23, .ref b24, .ref b25, .int 0, .int 0, .ref b28, .ref b29, .ref b30, .ref b31, .ref b32, .ref b33, .ref b34, .ref b35, .ref b36, .int 0, .int 0, .long 0, .ref b40, .ref b41, .ref b42, .ref b43, .ref b44, .int 0, .ref b46, .ref b47, .ref b48, .ref b49, .ref b50, .int 0]))]) [15] rfl
  have hKc := hK.sub (tys' := []) [] rfl
  have hDc := hD.sub (ws' := [(g0, .inr (10, [.int 0, .ref b1, .ref b2, .ref b3, .ref b4, .ref b1, .int 0, .int 0, .int 0, .int 0, .int 0, .int 0, .int 0, .int 0, .int 0, .int 0, .ref (ad 5), .ref (ad 7), .int 0, .ref b19, .ref b20, .ref b21, .ref b22, .ref b23, .ref b24, .ref b25, .int 0, .int 0, .ref b28, .ref b29, .ref b30, .ref b31, .ref b32, .ref b33, .ref b34, .ref b35, .ref b36, .int 0, .int 0, .long 0, .ref b40, .ref b41, .ref b42, .ref b43, .ref b44, .int 0, .ref b46, .ref b47, .ref b48, .ref b49, .ref b50, .int 0]))]) [15] (by decide) rfl
  have hFc := va_free (wc := [(g0, .inr (10, [.int 0, .ref b1, .ref b2, .ref b3, .ref b4, .ref b1, .int 0, .int 0, .int 0, .int 0, .int 0, .int 0, .int 0, .int 0, .int 0, .int 0, .ref (ad 5), .ref (ad 7), .int 0, .ref b19, .ref b20, .ref b21, .ref b22, .ref b23, .ref b24, .ref b25, .int 0, .int 0, .ref b28, .ref b29, .ref b30, .ref b31, .ref b32, .ref b33, .ref b34, .ref b35, .ref b36, .int 0, .int 0, .long 0, .ref b40, .ref b41, .ref b42, .ref b43, .ref b44, .int 0, .ref b46, .ref b47, .ref b48, .ref b49, .ref b50, .int 0]))]) hD hS hA [15] rfl
  refine va_calli (va_runV (As := [.int (xs (Int32.toNatClampNeg 1)), .long z_19, .int (xs (Int32.toNatClampNeg 4)), .int (xs (Int32.toNatClampNeg 5))]) (rest := [.int (-1)]) ⟨hx, hb, hml, hown, hts⟩ (c_all10 l dC dI g0 (.int 0 : Value) (.ref b1 : Value) (.ref b2 : Value) (.ref b3 : Value) (.ref b4 : Value) (.ref b1 : Value) (.int 0 : Value) (.int 0 : Value) (.int 0 : Value) (.int 0 : Value) (.int 0 : Value) (.int 0 : Value) (.int 0 : Value) (.int 0 : Value) (.int 0 : Value) (.ref (ad 5) : Value) (.ref (ad 7) : Value) (.int 0 : Value) (.ref b19 : Value) (.ref b20 : Value) (.ref b21 : Value) (.ref b22 : Value) (.ref b23 : Value) (.ref b24 : Value) (.ref b25 : Value) (.int 0 : Value) (.int 0 : Value) (.ref b28 : Value) (.ref b29 : Value) (.ref b30 : Value) (.ref b31 : Value) (.ref b32 : Value) (.ref b33 : Value) (.ref b34 : Value) (.ref b35 : Value) (.ref b36 : Value) (.int 0 : Value) (.int 0 : Value) (.long 0 : Value) (.ref b40 : Value) (.ref b41 : Value) (.ref b42 : Value) (.ref b43 : Value) (.ref b44 : Value) (.int 0 : Value) (.ref b46 : Value) (.ref b47 : Value) (.ref b48 : Value) (.ref b49 : Value) (.ref b50 : Value) (.int 0 : Value) (xs (Int32.toNatClampNeg 1)) z_19 (xs (Int32.toNatClampNeg 4)) (xs (Int32.toNatClampNeg 5)) H.size) (cwV 4 hts (kG (List.forall_mem_cons.mpr ⟨tw_1442, (List.forall_mem_cons.mpr ⟨tw_1443, (List.forall_mem_cons.mpr ⟨tw_1444, (List.forall_mem_cons.mpr ⟨tw_85, (fun _ h => absurd h List.not_mem_nil)⟩)⟩)⟩)⟩) (by decide +kernel) in_w_c_all10 gw_c_all10) rfl rfl rfl (by decide +kernel) ⟨(Nat.le_of_ble_eq_true rfl), (Nat.le_of_ble_eq_true rfl)⟩) (kW_V kT_blind kT_give (va_recv hKc hPc (ci := 10) (q0 := 0) rfl rfl) hPc hKc hDc) rfl rfl hl.1 rfl (lv_room (Nat.le_of_ble_eq_true rfl)) dL_law_719 ⟨(Nat.le_of_ble_eq_true rfl), (Nat.le_of_ble_eq_true rfl)⟩) hS (fun q _ h => hFc q h) hFc (fun r_22 u t H1 locs ht hvm hw hB hz1 hk1 hS => ?_)
  have hP1 : va_P (dC, dI) vwCl [] H1 := fun k q h => by simp at h
  have hD1 : va_D (va_A [(g0, .inr (10, [.int 0, .ref b1, .ref b2, .ref b3, .ref b4, .ref b1, .int 0, .int 0, .int 0, .int 0, .int 0, .int 0, .int 0, .int 0, .int 0, .int 0, .ref (ad 5), .ref (ad 7), .int 0, .ref b19, .ref b20, .ref b21, .ref b22, .ref b23, .ref b24, .ref b25, .int 0, .int 0, .ref b28, .ref b29, .ref b30, .ref b31, .ref b32, .ref b33, .ref b34, .ref b35, .ref b36, .int 0, .int 0, .long 0, .ref b40, .ref b41, .ref b42, .ref b43, .ref b44, .int 0, .ref b46, .ref b47, .ref b48, .ref b49, .ref b50, .int 0]))] H.size) [] := ⟨fun i j p q h => by simp at h, fun k q h => by simp at h⟩
  try dsimp only at hw
  obtain ⟨hP, hD⟩ := va_join (wr := [(h0, .inr (9, [.ref jT, .ref jR, .ref e2, .ref jL, .ref jU, .ref jF, .ref e6, .ref jN, .ref jA, .ref e9])), (jT, .inr (8, [.ref t0, .int 0])), (t0, .inl (cC, 120, .inl (fun _ => 0))), (jR, .inr (4, [.ref jT, .ref r1, .ref r2, .int 0, .int 0, .int 0, .ref (ad 0), .ref (ad 0)])), (jL, .inr (7, [.ref l0, .int 0])), (l0, .inl (cL, 6, .inr (.inr (.inr (.inr (fun _ => none)))))), (jU, .inr (7, [.ref m0, .int 0])), (m0, .inl (cM, 8, .inr (.inr (.inr (.inr (fun _ => none)))))), (jF, .inr (2, [.ref f0, .ref f1, .ref f2, .ref f3, .ref f4, .int 0, .int 0, .int 0])), (f0, .inl (z0, 10, .inl (fun _ => 0))), (f1, .inl (z1, 10, .inl (fun _ => 0))), (f2, .inl (z2, 10, .inl (fun _ => 0))), (f4, .inl (z4, 4, .inl (fun _ => 0))), (jN, .inr (3, [.ref n0, .ref n1, .ref n2, .ref n3, .ref n4, .int 0])), (jA, .inr (0, [.ref a0, .ref a1, .ref a2, .ref a3, .int 0])), (b1, .inl (y1, 120, .inl (fun _ => 0))), (b19, .inl (y19, 10, .inl (fun _ => 0))), (b20, .inl (y20, 10, .inl (fun _ => 0))), (b21, .inl (y21, 10, .inl (fun _ => 0))), (b22, .inl (y22, 10, .inl (fun _ => 0))), (b23, .inl (y23, 10, .inl (fun _ => 0))), (b24, .inl (y24, 4, .inl (fun _ => 0))), (b25, .inl (y25, 10, .inl (fun _ => 0))), (o0, .inl (cO, 1, .inr (.inl (fun _ => 0))))]) (w1 := []) hP hD [15] [0, 1, 2, 3, 4, 5, 6, 7, 8, 9, 10, 11, 12, 13, 14, 16, 17, 18, 19, 20, 21, 22, 23, 24] rfl rfl (by decide) (by decide) hk1 hFc hP1 hD1
  generalize H1 = H at hP hS ⊢
  have hP : va_P (dC, dI) vwCl [(h0, .inr (9, [.ref jT, .ref jR, .ref e2, .ref jL, .ref jU, .ref jF, .ref e6, .ref jN, .ref jA, .ref e9])), (jT, .inr (8, [.ref t0, .int 0])), (t0, .inl (cC, 120, .inl (fun _ => 0))), (jR, .inr (4, [.ref jT, .ref r1, .ref r2, .int 0, .int 0, .int 0, .ref (ad 0), .ref (ad 0)])), (jL, .inr (7, [.ref l0, .int 0])), (l0, .inl (cL, 6, .inr (.inr (.inr (.inr (fun _ => none)))))), (jU, .inr (7, [.ref m0, .int 0])), (m0, .inl (cM, 8, .inr (.inr (.inr (.inr (fun _ => none)))))), (jF, .inr (2, [.ref f0, .ref f1, .ref f2, .ref f3, .ref f4, .int 0, .int 0, .int 0])), (f0, .inl (z0, 10, .inl (fun _ => 0))), (f1, .inl (z1, 10, .inl (fun _ => 0))), (f2, .inl (z2, 10, .inl (fun _ => 0))), (f4, .inl (z4, 4, .inl (fun _ => 0))), (jN, .inr (3, [.ref n0, .ref n1, .ref n2, .ref n3, .ref n4, .int 0])), (jA, .inr (0, [.ref a0, .ref a1, .ref a2, .ref a3, .int 0])), (b1, .inl (y1, 120, .inl (fun _ => 0))), (b19, .inl (y19, 10, .inl (fun _ => 0))), (b20, .inl (y20, 10, .inl (fun _ => 0))), (b21, .inl (y21, 10, .inl (fun _ => 0))), (b22, .inl (y22, 10, .inl (fun _ => 0))), (b23, .inl (y23, 10, .inl (fun _ => 0))), (b24, .inl (y24, 4, .inl (fun _ => 0))), (b25, .inl (y25, 10, .inl (fun _ => 0))), (o0, .inl (cO, 1, .inr (.inl (fun _ => 0))))] H := hP
  have hD : va_D (fun q : Nat => s.heap.size ≤ q) [(h0, .inr (9, [.ref jT, .ref jR, .ref e2, .ref jL, .ref jU, .ref jF, .ref e6, .ref jN, .ref jA, .ref e9])), (jT, .inr (8, [.ref t0, .int 0])), (t0, .inl (cC, 120, .inl (fun _ => 0))), (jR, .inr (4, [.ref jT, .ref r1, .ref r2, .int 0, .int 0, .int 0, .ref (ad 0), .ref (ad 0)])), (jL, .inr (7, [.ref l0, .int 0])), (l0, .inl (cL, 6, .inr (.inr (.inr (.inr (fun _ => none)))))), (jU, .inr (7, [.ref m0, .int 0])), (m0, .inl (cM, 8, .inr (.inr (.inr (.inr (fun _ => none)))))), (jF, .inr (2, [.ref f0, .ref f1, .ref f2, .ref f3, .ref f4, .int 0, .int 0, .int 0])), (f0, .inl (z0, 10, .inl (fun _ => 0))), (f1, .inl (z1, 10, .inl (fun _ => 0))), (f2, .inl (z2, 10, .inl (fun _ => 0))), (f4, .inl (z4, 4, .inl (fun _ => 0))), (jN, .inr (3, [.ref n0, .ref n1, .ref n2, .ref n3, .ref n4, .int 0])), (jA, .inr (0, [.ref a0, .ref a1, .ref a2, .ref a3, .int 0])), (b1, .inl (y1, 120, .inl (fun _ => 0))), (b19, .inl (y19, 10, .inl (fun _ => 0))), (b20, .inl (y20, 10, .inl (fun _ => 0))), (b21, .inl (y21, 10, .inl (fun _ => 0))), (b22, .inl (y22, 10, .inl (fun _ => 0))), (b23, .inl (y23, 10, .inl (fun _ => 0))), (b24, .inl (y24, 4, .inl (fun _ => 0))), (b25, .inl (y25, 10, .inl (fun _ => 0))), (o0, .inl (cO, 1, .inr (.inl (fun _ => 0))))] := hD
  obtain rfl : r_22 = (-1) := hw
  refine lv_icmp_eq (tgt := 1792) hx hb dL_law_722 (by decide) (fun c_23 => ?_) (fun c_23 => absurd (by decide) c_23)
  exact law_tail C0 hS (Nat.le_of_ble_eq_true rfl) (Nat.le_of_ble_eq_true rfl) (lv_sub hl [0, 1, 2, 3, 4] rfl)
