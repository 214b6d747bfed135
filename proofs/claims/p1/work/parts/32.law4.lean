theorem dL_law_1426 : decode cL_law 1426 = .ok (.aload_n 1, 1) := by decide +kernel
theorem dL_law_1427 : decode cL_law 1427 = .ok (.aload_n 0, 1) := by decide +kernel
theorem dL_law_1428 : decode cL_law 1428 = .ok (.iload 4, 2) := by decide +kernel
theorem dL_law_1430 : decode cL_law 1430 = .ok (.iconst 1, 1) := by decide +kernel
theorem dL_law_1431 : decode cL_law 1431 = .ok (.iadd, 1) := by decide +kernel
theorem dL_law_1432 : decode cL_law 1432 = .ok (.iaload, 1) := by decide +kernel
theorem dL_law_1433 : decode cL_law 1433 = .ok (.aload_n 0, 1) := by decide +kernel
theorem dL_law_1434 : decode cL_law 1434 = .ok (.iload 4, 2) := by decide +kernel
theorem dL_law_1436 : decode cL_law 1436 = .ok (.iconst 2, 1) := by decide +kernel
theorem dL_law_1437 : decode cL_law 1437 = .ok (.iadd, 1) := by decide +kernel
theorem dL_law_1438 : decode cL_law 1438 = .ok (.iaload, 1) := by decide +kernel
theorem dL_law_1439 : decode cL_law 1439 = .ok (.invokevirtual 118, 3) := by decide +kernel
theorem dL_law_1442 : decode cL_law 1442 = .ok (.aload_n 2, 1) := by decide +kernel
theorem dL_law_1443 : decode cL_law 1443 = .ok (.aload_n 0, 1) := by decide +kernel
theorem dL_law_1444 : decode cL_law 1444 = .ok (.iload 4, 2) := by decide +kernel
theorem dL_law_1446 : decode cL_law 1446 = .ok (.iconst 1, 1) := by decide +kernel
theorem dL_law_1447 : decode cL_law 1447 = .ok (.iadd, 1) := by decide +kernel
theorem dL_law_1448 : decode cL_law 1448 = .ok (.iaload, 1) := by decide +kernel
theorem dL_law_1449 : decode cL_law 1449 = .ok (.aload_n 0, 1) := by decide +kernel
theorem dL_law_1450 : decode cL_law 1450 = .ok (.iload 4, 2) := by decide +kernel
theorem dL_law_1452 : decode cL_law 1452 = .ok (.iconst 2, 1) := by decide +kernel
theorem dL_law_1453 : decode cL_law 1453 = .ok (.iadd, 1) := by decide +kernel
theorem dL_law_1454 : decode cL_law 1454 = .ok (.iaload, 1) := by decide +kernel
theorem dL_law_1455 : decode cL_law 1455 = .ok (.invokevirtual 121, 3) := by decide +kernel
theorem dL_law_1458 : decode cL_law 1458 = .ok (.if_icmp .eq 334, 3) := by decide +kernel
set_option maxHeartbeats 4000000 in
set_option maxRecDepth 100000 in
theorem law_20 {p : Program} {l : Launch} {e : Env} {s : State} {m : MethodId} {below : List Frame} {meth : Method} {c : Code} {b : Nat} {xs : Nat → Int32} {dC : Nat → ClassId} {dI : Nat → Nat → Nat} {ad : Nat → Nat} {h0 : Nat} {g0 : Nat} {o0 : Nat} {jT : Nat} {jR : Nat} {e2 : Nat} {jL : Nat} {jU : Nat} {jF : Nat} {e6 : Nat} {jN : Nat} {jA : Nat} {e9 : Nat} {t0 : Nat} {r1 : Nat} {r2 : Nat} {l0 : Nat} {m0 : Nat} {f0 : Nat} {f1 : Nat} {f2 : Nat} {f3 : Nat} {f4 : Nat} {n0 : Nat} {n1 : Nat} {n2 : Nat} {n3 : Nat} {n4 : Nat} {a0 : Nat} {a1 : Nat} {a2 : Nat} {a3 : Nat} {cC : ClassId} {cL : ClassId} {cM : ClassId} {z0 : ClassId} {z1 : ClassId} {z2 : ClassId} {z4 : ClassId} {b1 : Nat} {b2 : Nat} {b3 : Nat} {b4 : Nat} {b19 : Nat} {b20 : Nat} {b21 : Nat} {b22 : Nat} {b23 : Nat} {b24 : Nat} {b25 : Nat} {b28 : Nat} {b29 : Nat} {b30 : Nat} {b31 : Nat} {b32 : Nat} {b33 : Nat} {b34 : Nat} {b35 : Nat} {b36 : Nat} {b40 : Nat} {b41 : Nat} {b42 : Nat} {b43 : Nat} {b44 : Nat} {b46 : Nat} {b47 : Nat} {b48 : Nat} {b49 : Nat} {b50 : Nat} {y1 : ClassId} {y19 : ClassId} {y20 : ClassId} {y21 : ClassId} {y22 : ClassId} {y23 : ClassId} {y24 : ClassId} {y25 : ClassId} {cO : ClassId} (C0 : lw_At p s m meth c b 7 xs) (hXX : kLaw ad s) {H : Heap} {locs : List Loc} (hK : va_K (dC, dI) vwCl [(cC, .char), (cL, .object RX6), (cM, .object RX6), (z0, .int), (z1, .int), (z2, .int), (z4, .int), (y1, .byte), (y19, .int), (y20, .int), (y21, .int), (y22, .int), (y23, .int), (y24, .int), (y25, .boolean), (cO, .long)] s) (hP : va_P (dC, dI) vwCl [(h0, .inr (9, [.ref jT, .ref jR, .ref e2, .ref jL, .ref jU, .ref jF, .ref e6, .ref jN, .ref jA, .ref e9])), (jT, .inr (8, [.ref t0, .int 0])), (t0, .inl (cC, 120, .inl (fun _ => 0))), (jR, .inr (4, [.ref jT, .ref r1, .ref r2, .int 0, .int 0, .int 0, .ref (ad 0), .ref (ad 0)])), (jL, .inr (7, [.ref l0, .int 0])), (l0, .inl (cL, 6, .inr (.inr (.inr (.inr (fun _ => none)))))), (jU, .inr (7, [.ref m0, .int 0])), (m0, .inl (cM, 8, .inr (.inr (.inr (.inr (fun _ => none)))))), (jF, .inr (2, [.ref f0, .ref f1, .ref f2, .ref f3, .ref f4, .int 0, .int 0, .int 0])), (f0, .inl (z0, 10, .inl (fun _ => 0))), (f1, .inl (z1, 10, .inl (fun _ => 0))), (f2, .inl (z2, 10, .inl (fun _ => 0))), (f4, .inl (z4, 4, .inl (fun _ => 0))), (jN, .inr (3, [.ref n0, .ref n1, .ref n2, .ref n3, .ref n4, .int 0])), (jA, .inr (0, [.ref a0, .ref a1, .ref a2, .ref a3, .int 0])), (g0, .inr (10, [.int 0, .ref b1, .ref b2, .ref b3, .ref b4, .ref b1, .int 0, .int 0, .int 0, .int 0, .int 0, .int 0, .int 0, .int 0, .int 0, .int 0, .ref (ad 5), .ref (ad 7), .int 0, .ref b19, .ref b20, .ref b21, .ref b22, .ref b23, .ref b24, .ref b25, .int 0, .int 0, .ref b28, .ref b29, .ref b30, .ref b31, .ref b32, .ref b33, .ref b34, .ref b35, .ref b36, .int 0, .int 0, .long 0, .ref b40, .ref b41, .ref b42, .ref b43, .ref b44, .int 0, .ref b46, .ref b47, .ref b48, .ref b49, .ref b50, .int 0])), (b1, .inl (y1, 120, .inl (fun _ => 0))), (b19, .inl (y19, 10, .inl (fun _ => 0))), (b20, .inl (y20, 10, .inl (fun _ => 0))), (b21, .inl (y21, 10, .inl (fun _ => 0))), (b22, .inl (y22, 10, .inl (fun _ => 0))), (b23, .inl (y23, 10, .inl (fun _ => 0))), (b24, .inl (y24, 4, .inl (fun _ => 0))), (b25, .inl (y25, 10, .inl (fun _ => 0))), (o0, .inl (cO, 1, .inr (.inl (fun _ => 0))))] H) (hD : va_D (fun q : Nat => s.heap.size ≤ q) [(h0, .inr (9, [.ref jT, .ref jR, .ref e2, .ref jL, .ref jU, .ref jF, .ref e6, .ref jN, .ref jA, .ref e9])), (jT, .inr (8, [.ref t0, .int 0])), (t0, .inl (cC, 120, .inl (fun _ => 0))), (jR, .inr (4, [.ref jT, .ref r1, .ref r2, .int 0, .int 0, .int 0, .ref (ad 0), .ref (ad 0)])), (jL, .inr (7, [.ref l0, .int 0])), (l0, .inl (cL, 6, .inr (.inr (.inr (.inr (fun _ => none)))))), (jU, .inr (7, [.ref m0, .int 0])), (m0, .inl (cM, 8, .inr (.inr (.inr (.inr (fun _ => none)))))), (jF, .inr (2, [.ref f0, .ref f1, .ref f2, .ref f3, .ref f4, .int 0, .int 0, .int 0])), (f0, .inl (z0, 10, .inl (fun _ => 0))), (f1, .inl (z1, 10, .inl (fun _ => 0))), (f2, .inl (z2, 10, .inl (fun _ => 0))), (f4, .inl (z4, 4, .inl (fun _ => 0))), (jN, .inr (3, [.ref n0, .ref n1, .ref n2, .ref n3, .ref n4, .int 0])), (jA, .inr (0, [.ref a0, .ref a1, .ref a2, .ref a3, .int 0])), (g0, .inr (10, [.int 0, .ref b1, .ref b2, .ref b3, .ref b4, .ref b1, .int 0, .int 0, .int 0, .int 0, .int 0, .int 0, .int 0, .int 0, .int 0, .int 0, .ref (ad 5), .ref (ad 7), .int 0, .ref b19, .ref b20, .ref b21, .ref b22, .ref b23, .ref b24, .ref b25, .int 0, .int 0, .ref b28, .ref b29, .ref b30, .ref b31, .ref b32, .ref b33, .ref b34, .ref b35, .ref b36, .int 0, .int 0, .long 0, .ref b40, .ref b41, .ref b42, .ref b43, .ref b44, .int 0, .ref b46, .ref b47, .ref b48, .ref b49, .ref b50, .int 0])), (b1, .inl (y1, 120, .inl (fun _ => 0))), (b19, .inl (y19, 10, .inl (fun _ => 0))), (b20, .inl (y20, 10, .inl (fun _ => 0))), (b21, .inl (y21, 10, .inl (fun _ => 0))), (b22, .inl (y22, 10, .inl (fun _ => 0))), (b23, .inl (y23, 10, .inl (fun _ => 0))), (b24, .inl (y24, 4, .inl (fun _ => 0))), (b25, .inl (y25, 10, .inl (fun _ => 0))), (o0, .inl (cO, 1, .inr (.inl (fun _ => 0))))]) (hS : va_S (fun q : Nat => s.heap.size ≤ q) s.heap H locs) {ls : Array Slot} (hl : lv_has ls 7 [(4, .int 0), (3, .ref o0), (2, .ref g0), (1, .ref h0), (0, .ref b)]) (hlt : l.stackTraces = false) : W p l e room_1 s m #[Value.ref b] below meth c H locs 76 3048 (lw_Z below #[Value.ref b] s) (F0 m 1426 ls []) := by
  obtain ⟨hx, hb, hr, hml, hown, hts, hX, hbl, hlocks, hgv⟩ := id C0
  have hown : s.vm.findClass RL = some m.cls := hown
  have hA : ∀ q : Nat, s.heap.size ≤ q → (fun q : Nat => s.heap.size ≤ q) q := fun _ h => h
  have hbA : ¬ (fun q : Nat => s.heap.size ≤ q) b := Nat.not_le.mpr hbl
  refine lv_aload_n hx hb dL_law_1426 rfl (lv_at hl 3 rfl) ?_
  refine lv_aload_n hx hb dL_law_1427 rfl (lv_at hl 4 rfl) ?_
  refine lv_iload hx hb dL_law_1428 (lv_at hl 0 rfl) ?_
  refine lv_iconst (v := 1) hx hb dL_law_1430 (by decide) ?_
  refine lv_iadd hx hb dL_law_1431 ?_
  refine lv_topi (fun y_1 ey_1 => ?_)
  obtain rfl : y_1 = 1 := ey_1.trans (by decide)
  refine va_sld hx hb hX hbl hbA hS (by unfold vp_in; decide) dL_law_1432 ?_
  refine lv_aload_n hx hb dL_law_1433 rfl (lv_at hl 4 rfl) ?_
  refine lv_iload hx hb dL_law_1434 (lv_at hl 0 rfl) ?_
  refine lv_iconst (v := 2) hx hb dL_law_1436 (by decide) ?_
  refine lv_iadd hx hb dL_law_1437 ?_
  refine lv_topi (fun y_2 ey_2 => ?_)
  obtain rfl : y_2 = 2 := ey_2.trans (by decide)
  refine va_sld hx hb hX hbl hbA hS (by unfold vp_in; decide) dL_law_1438 ?_
  have hPc := hP.sub (ws' := [(h0, .inr (9, [.ref jT, .ref jR, .ref e2, .ref jL, .ref jU, .ref jF, .ref e6, .ref jN, .ref jA, .ref e9])), (jF, .inr (2, [.ref f0, .ref f1, .ref f2, .ref f3, .ref f4, .int 0, .int 0, .int 0]))]) [0, 8] rfl
  have hKc := hK.sub (tys' := []) [] rfl
  refine vp_callSi (va_runV (As := [.int (xs (Int32.toNatClampNeg 1)), .int (xs (Int32.toNatClampNeg 2))]) (rest := []) ⟨hx, hb, hml, hown, hts⟩ (c_say9 l dC dI h0 jF (.ref jT : Value) (.ref jR : Value) (.ref e2 : Value) (.ref jL : Value) (.ref jU : Value) (.ref e6 : Value) (.ref jN : Value) (.ref jA : Value) (.ref e9 : Value) (.ref f0 : Value) (.ref f1 : Value) (.ref f2 : Value) (.ref f3 : Value) (.ref f4 : Value) (.int 0 : Value) (.int 0 : Value) (xs (Int32.toNatClampNeg 1)) (xs (Int32.toNatClampNeg 2))) (cwV 2 hts (kG (List.forall_mem_cons.mpr ⟨tw_907, (List.forall_mem_cons.mpr ⟨tw_908, (List.forall_mem_cons.mpr ⟨tw_909, (List.forall_mem_cons.mpr ⟨tw_75, (fun _ h => absurd h List.not_mem_nil)⟩)⟩)⟩)⟩) (by decide +kernel) in_w_c_say9 gw_c_say9) rfl rfl rfl (by decide +kernel) ⟨(Nat.le_of_ble_eq_true rfl), (Nat.le_of_ble_eq_true rfl)⟩) (kR_V kT_blind kT_give (va_recv hKc hPc (ci := 9) (q0 := 0) rfl rfl) hPc hKc) rfl rfl hl.1 rfl (lv_room (Nat.le_of_ble_eq_true rfl)) dL_law_1439 ⟨(Nat.le_of_ble_eq_true rfl), (Nat.le_of_ble_eq_true rfl)⟩).run (fun r_3 hw => ?_)
  obtain rfl : r_3 = 0 := hw
  refine lv_aload_n hx hb dL_law_1442 rfl (lv_at hl 2 rfl) ?_
  refine lv_aload_n hx hb dL_law_1443 rfl (lv_at hl 4 rfl) ?_
  refine lv_iload hx hb dL_law_1444 (lv_at hl 0 rfl) ?_
  refine lv_iconst (v := 1) hx hb dL_law_1446 (by decide) ?_
  refine lv_iadd hx hb dL_law_1447 ?_
  refine lv_topi (fun y_4 ey_4 => ?_)
  obtain rfl : y_4 = 1 := ey_4.trans (by decide)
  refine va_sld hx hb hX hbl hbA hS (by unfold vp_in; decide) dL_law_1448 ?_
  refine lv_aload_n hx hb dL_law_1449 rfl (lv_at hl 4 rfl) ?_
  refine lv_iload hx hb dL_law_1450 (lv_at hl 0 rfl) ?_
  refine lv_iconst (v := 2) hx hb dL_law_1452 (by decide) ?_
  refine lv_iadd hx hb dL_law_1453 ?_
  refine lv_topi (fun y_5 ey_5 => ?_)
  obtain rfl : y_5 = 2 := ey_5.trans (by decide)
  refine va_sld hx hb hX hbl hbA hS (by unfold vp_in; decide) dL_law_1454 ?_
  have hPc := hP.sub (ws' := [(g0, .inr (10, [.int 0, .ref b1, .ref b2, .ref b3, .ref b4, .ref b1, .int 0, .int 0, .int 0, .int 0, .int 0, .int 0, .int 0, .int 0, .int 0, .int 0, .ref (ad 5), .ref (ad 7), .int 0, .ref b19, .ref b20, .ref b21, .ref b22, .ref b23, .ref b24, .ref b25, .int 0, .int 0, .ref b28, .ref b29, .ref b30, .ref b31, .ref b32, .ref b33, .ref b34, .ref b35, .ref b36, .int 0, .int 0, .long 0, .ref b40, .ref b41, .ref b42, .ref b43, .ref b44, .int 0, .ref b46, .ref b47, .ref b48, .ref b49, .ref b50, .int 0]))]) [15] rfl
  have hKc := hK.sub (tys' := []) [] rfl
  have hDc := hD.sub (ws' := [(g0, .inr (10, [.int 0, .ref b1, .ref b2, .ref b3, .ref b4, .ref b1, .int 0, .int 0, .int 0, .int 0, .int 0, .int 0, .int 0, .int 0, .int 0, .int 0, .ref (ad 5), .ref (ad 7), .int 0, .ref b19, .ref b20, .ref b21, .ref b22, .ref b23, .ref b24, .ref b25, .int 0, .int 0, .ref b28, .ref b29, .ref b30, .ref b31, .ref b32, .ref b33, .ref b34, .ref b35, .ref b36, .int 0, .int 0, .long 0, .ref b40, .ref b41, .ref b42, .ref b43, .ref b44, .int 0, .ref b46, .ref b47, .ref b48, .ref b49, .ref b50, .int 0]))]) [15] (by decide) rfl
  have hFc := va_free (wc := [(g0, .inr (10, [.int 0, .ref b1, .ref b2, .ref b3, .ref b4, .ref b1, .int 0, .int 0, .int 0, .int 0, .int 0, .int 0, .int 0, .int 0, .int 0, .int 0, .ref (ad 5), .ref (ad 7), .int 0, .ref b19, .ref b20, .ref b21, .ref b22, .ref b23, .ref b24, .ref b25, .int 0, .int 0, .ref b28, .ref b29, .ref b30, .ref b31, .ref b32, .ref b33, .ref b34, .ref b35, .ref b36, .int 0, .int 0, .long 0, .ref b40, .ref b41, .ref b42, .ref b43, .ref b44, .int 0, .ref b46, .ref b47, .ref b48, .ref b49, .ref b50, .int 0]))]) hD hS hA [15] rfl
  refine va_calli (va_runV (As := [.int (xs (Int32.toNatClampNeg 1)), .int (xs (Int32.toNatClampNeg 2))]) (rest := [.int 0]) ⟨hx, hb, hml, hown, hts⟩ (c_say10 l dC dI g0 (.int 0 : Value) (.ref b1 : Value) (.ref b2 : Value) (.ref b3 : Value) (.ref b4 : Value) (.ref b1 : Value) (.int 0 : Value) (.int 0 : Value) (.int 0 : Value) (.int 0 : Value) (.int 0 : Value) (.int 0 : Value) (.int 0 : Value) (.int 0 : Value) (.int 0 : Value) (.int 0 : Value) (.ref (ad 5) : Value) (.ref (ad 7) : Value) (.int 0 : Value) (.ref b19 : Value) (.ref b20 : Value) (.ref b21 : Value) (.ref b22 : Value) (.ref b23 : Value) (.ref b24 : Value) (.ref b25 : Value) (.int 0 : Value) (.ref b28 : Value) (.ref b29 : Value) (.ref b30 : Value) (.ref b31 : Value) (.ref b32 : Value) (.ref b33 : Value) (.ref b34 : Value) (.ref b35 : Value) (.ref b36 : Value) (.int 0 : Value) (.int 0 : Value) (.long 0 : Value) (.ref b40 : Value) (.ref b41 : Value) (.ref b42 : Value) (.ref b43 : Value) (.ref b44 : Value) (.int 0 : Value) (.ref b46 : Value) (.ref b47 : Value) (.ref b48 : Value) (.ref b49 : Value) (.ref b50 : Value) (.int 0 : Value) (xs (Int32.toNatClampNeg 1)) (xs (Int32.toNatClampNeg 2)) H.size) (cwV 2 hts (kG (List.forall_mem_cons.mpr ⟨tw_1533, (List.forall_mem_cons.mpr ⟨tw_1534, (List.forall_mem_cons.mpr ⟨tw_1535, (List.forall_mem_cons.mpr ⟨tw_85, (fun _ h => absurd h List.not_mem_nil)⟩)⟩)⟩)⟩) (by decide +kernel) in_w_c_say10 gw_c_say10) rfl rfl rfl (by decide +kernel) ⟨(Nat.le_of_ble_eq_true rfl), (Nat.le_of_ble_eq_true rfl)⟩) (kW_V kT_blind kT_give (va_recv hKc hPc (ci := 10) (q0 := 0) rfl rfl) hPc hKc hDc) rfl rfl hl.1 rfl (lv_room (Nat.le_of_ble_eq_true rfl)) dL_law_1455 ⟨(Nat.le_of_ble_eq_true rfl), (Nat.le_of_ble_eq_true rfl)⟩) hS (fun q _ h => hFc q h) hFc (fun r_6 u t H1 locs ht hvm hw hB hz1 hk1 hS => ?_)
  have hP1 : va_P (dC, dI) vwCl [] H1 := fun k q h => by simp at h
  have hD1 : va_D (va_A [(g0, .inr (10, [.int 0, .ref b1, .ref b2, .ref b3, .ref b4, .ref b1, .int 0, .int 0, .int 0, .int 0, .int 0, .int 0, .int 0, .int 0, .int 0, .int 0, .ref (ad 5), .ref (ad 7), .int 0, .ref b19, .ref b20, .ref b21, .ref b22, .ref b23, .ref b24, .ref b25, .int 0, .int 0, .ref b28, .ref b29, .ref b30, .ref b31, .ref b32, .ref b33, .ref b34, .ref b35, .ref b36, .int 0, .int 0, .long 0, .ref b40, .ref b41, .ref b42, .ref b43, .ref b44, .int 0, .ref b46, .ref b47, .ref b48, .ref b49, .ref b50, .int 0]))] H.size) [] := ⟨fun i j p q h => by simp at h, fun k q h => by simp at h⟩
  try dsimp only at hw
  obtain ⟨hP, hD⟩ := va_join (wr := [(h0, .inr (9, [.ref jT, .ref jR, .ref e2, .ref jL, .ref jU, .ref jF, .ref e6, .ref jN, .ref jA, .ref e9])), (jT, .inr (8, [.ref t0, .int 0])), (t0, .inl (cC, 120, .inl (fun _ => 0))), (jR, .inr (4, [.ref jT, .ref r1, .ref r2, .int 0, .int 0, .int 0, .ref (ad 0), .ref (ad 0)])), (jL, .inr (7, [.ref l0, .int 0])), (l0, .inl (cL, 6, .inr (.inr (.inr (.inr (fun _ => none)))))), (jU, .inr (7, [.ref m0, .int 0])), (m0, .inl (cM, 8, .inr (.inr (.inr (.inr (fun _ => none)))))), (jF, .inr (2, [.ref f0, .ref f1, .ref f2, .ref f3, .ref f4, .int 0, .int 0, .int 0])), (f0, .inl (z0, 10, .inl (fun _ => 0))), (f1, .inl (z1, 10, .inl (fun _ => 0))), (f2, .inl (z2, 10, .inl (fun _ => 0))), (f4, .inl (z4, 4, .inl (fun _ => 0))), (jN, .inr (3, [.ref n0, .ref n1, .ref n2, .ref n3, .ref n4, .int 0])), (jA, .inr (0, [.ref a0, .ref a1, .ref a2, .ref a3, .int 0])), (b1, .inl (y1, 120, .inl (fun _ => 0))), (b19, .inl (y19, 10, .inl (fun _ => 0))), (b20, .inl (y20, 10, .inl (fun _ => 0))), (b21, .inl (y21, 10, .inl (fun _ => 0))), (b22, .inl (y22, 10, .inl (fun _ => 0))), (b23, .inl (y23, 10, .inl (fun _ => 0))), (b24, .inl (y24, 4, .inl (fun _ => 0))), (b25, .inl (y25, 10, .inl (fun _ => 0))), (o0, .inl (cO, 1, .inr (.inl (fun _ => 0))))]) (w1 := []) hP hD [15] [0, 1, 2, 3, 4, 5, 6, 7, 8, 9, 10, 11, 12, 13, 14, 16, 17, 18, 19, 20, 21, 22, 23, 24] rfl rfl (by decide) (by decide) hk1 hFc hP1 hD1
  generalize H1 = H at hP hS ⊢
  have hP : va_P (dC, dI) vwCl [(h0, .inr (9, [.ref jT, .ref jR, .ref e2, .ref jL, .ref jU, .ref jF, .ref e6, .ref jN, .ref jA, .ref e9])), (jT, .inr (8, [.ref t0, .int 0])), (t0, .inl (cC, 120, .inl (fun _ => 0))), (jR, .inr (4, [.ref jT, .ref r1, .ref r2, .int 0, .int 0, .int 0, .ref (ad 0), .ref (ad 0)])), (jL, .inr (7, [.ref l0, .int 0])), (l0, .inl (cL, 6, .inr (.inr (.inr (.inr (fun _ => none)))))), (jU, .inr (7, [.ref m0, .int 0])), (m0, .inl (cM, 8, .inr (.inr (.inr (.inr (fun _ => none)))))), (jF, .inr (2, [.ref f0, .ref f1, .ref f2, .ref f3, .ref f4, .int 0, .int 0, .int 0])), (f0, .inl (z0, 10, .inl (fun _ => 0))), (f1, .inl (z1, 10, .inl (fun _ => 0))), (f2, .inl (z2, 10, .inl (fun _ => 0))), (f4, .inl (z4, 4, .inl (fun _ => 0))), (jN, .inr (3, [.ref n0, .ref n1, .ref n2, .ref n3, .ref n4, .int 0])), (jA, .inr (0, [.ref a0, .ref a1, .ref a2, .ref a3, .int 0])), (b1, .inl (y1, 120, .inl (fun _ => 0))), (b19, .inl (y19, 10, .inl (fun _ => 0))), (b20, .inl (y20, 10, .inl (fun _ => 0))), (b21, .inl (y21, 10, .inl (fun _ => 0))), (b22, .inl (y22, 10, .inl (fun _ => 0))), (b23, .inl (y23, 10, .inl (fun _ => 0))), (b24, .inl (y24, 4, .inl (fun _ => 0))), (b25, .inl (y25, 10, .inl (fun _ => 0))), (o0, .inl (cO, 1, .inr (.inl (fun _ => 0))))] H := hP
  have hD : va_D (fun q : Nat => s.heap.size ≤ q) [(h0, .inr (9, [.ref jT, .ref jR, .ref e2, .ref jL, .ref jU, .ref jF, .ref e6, .ref jN, .ref jA, .ref e9])), (jT, .inr (8, [.ref t0, .int 0])), (t0, .inl (cC, 120, .inl (fun _ => 0))), (jR, .inr (4, [.ref jT, .ref r1, .ref r2, .int 0, .int 0, .int 0, .ref (ad 0), .ref (ad 0)])), (jL, .inr (7, [.ref l0, .int 0])), (l0, .inl (cL, 6, .inr (.inr (.inr (.inr (fun _ => none)))))), (jU, .inr (7, [.ref m0, .int 0])), (m0, .inl (cM, 8, .inr (.inr (.inr (.inr (fun _ => none)))))), (jF, .inr (2, [.ref f0, .ref f1, .ref f2, .ref f3, .ref f4, .int 0, .int 0, .int 0])), (f0, .inl (z0, 10, .inl (fun _ => 0))), (f1, .inl (z1, 10, .inl (fun _ => 0))), (f2, .inl (z2, 10, .inl (fun _ => 0))), (f4, .inl (z4, 4, .inl (fun _ => 0))), (jN, .inr (3, [.ref n0, .ref n1, .ref n2, .ref n3, .ref n4, .int 0])), (jA, .inr (0, [.ref a0, .ref a1, .ref a2, .ref a3, .int 0])), (b1, .inl (y1, 120, .inl (fun _ => 0))), (b19, .inl (y19, 10, .inl (fun _ => 0))), (b20, .inl (y20, 10, .inl (fun _ => 0))), (b21, .inl (y21, 10, .inl (fun _ => 0))), (b22, .inl (y22, 10, .inl (fun _ => 0))), (b23, .inl (y23, 10, .inl (fun _ => 0))), (b24, .inl (y24, 4, .inl (fun _ => 0))), (b25, .inl (y25, 10, .inl (fun _ => 0))), (o0, .inl (cO, 1, .inr (.inl (fun _ => 0))))] := hD
  obtain rfl : r_6 = 0 := hw
  refine lv_icmp_eq (tgt := 1792) hx hb dL_law_1458 (by decide) (fun c_7 => ?_) (fun c_7 => absurd (by decide) c_7)
  exact law_tail C0 hS (Nat.le_of_ble_eq_true rfl) (Nat.le_of_ble_eq_true rfl) (lv_sub hl [0, 1, 2, 3, 4] rfl)

theorem dL_law_1463 : decode cL_law 1463 = .ok (.aload_n 1, 1) := by decide +kernel
theorem dL_law_1464 : decode cL_law 1464 = .ok (.aload_n 0, 1) := by decide +kernel
theorem dL_law_1465 : decode cL_law 1465 = .ok (.iload 4, 2) := by decide +kernel
theorem dL_law_1467 : decode cL_law 1467 = .ok (.iconst 1, 1) := by decide +kernel
theorem dL_law_1468 : decode cL_law 1468 = .ok (.iadd, 1) := by decide +kernel
theorem dL_law_1469 : decode cL_law 1469 = .ok (.iaload, 1) := by decide +kernel
theorem dL_law_1470 : decode cL_law 1470 = .ok (.aload_n 0, 1) := by decide +kernel
theorem dL_law_1471 : decode cL_law 1471 = .ok (.iload 4, 2) := by decide +kernel
theorem dL_law_1473 : decode cL_law 1473 = .ok (.iconst 2, 1) := by decide +kernel
theorem dL_law_1474 : decode cL_law 1474 = .ok (.iadd, 1) := by decide +kernel
theorem dL_law_1475 : decode cL_law 1475 = .ok (.iaload, 1) := by decide +kernel
theorem dL_law_1476 : decode cL_law 1476 = .ok (.i2l, 1) := by decide +kernel
theorem dL_law_1477 : decode cL_law 1477 = .ok (.bipush 32, 2) := by decide +kernel
theorem dL_law_1479 : decode cL_law 1479 = .ok (.lshl, 1) := by decide +kernel
theorem dL_law_1480 : decode cL_law 1480 = .ok (.aload_n 0, 1) := by decide +kernel
theorem dL_law_1481 : decode cL_law 1481 = .ok (.iload 4, 2) := by decide +kernel
theorem dL_law_1483 : decode cL_law 1483 = .ok (.iconst 3, 1) := by decide +kernel
theorem dL_law_1484 : decode cL_law 1484 = .ok (.iadd, 1) := by decide +kernel
theorem dL_law_1485 : decode cL_law 1485 = .ok (.iaload, 1) := by decide +kernel
theorem dL_law_1486 : decode cL_law 1486 = .ok (.i2l, 1) := by decide +kernel
theorem dL_law_1487 : decode cL_law 1487 = .ok (.ldc2_w 62, 3) := by decide +kernel
theorem dL_law_1490 : decode cL_law 1490 = .ok (.land, 1) := by decide +kernel
theorem dL_law_1491 : decode cL_law 1491 = .ok (.lor, 1) := by decide +kernel
theorem dL_law_1492 : decode cL_law 1492 = .ok (.aload_n 0, 1) := by decide +kernel
theorem dL_law_1493 : decode cL_law 1493 = .ok (.iload 4, 2) := by decide +kernel
theorem dL_law_1495 : decode cL_law 1495 = .ok (.iconst 4, 1) := by decide +kernel
theorem dL_law_1496 : decode cL_law 1496 = .ok (.iadd, 1) := by decide +kernel
theorem dL_law_1497 : decode cL_law 1497 = .ok (.iaload, 1) := by decide +kernel
theorem dL_law_1498 : decode cL_law 1498 = .ok (.invokevirtual 122, 3) := by decide +kernel
theorem dL_law_1501 : decode cL_law 1501 = .ok (.aload_n 2, 1) := by decide +kernel
theorem dL_law_1502 : decode cL_law 1502 = .ok (.aload_n 0, 1) := by decide +kernel
theorem dL_law_1503 : decode cL_law 1503 = .ok (.iload 4, 2) := by decide +kernel
theorem dL_law_1505 : decode cL_law 1505 = .ok (.iconst 1, 1) := by decide +kernel
theorem dL_law_1506 : decode cL_law 1506 = .ok (.iadd, 1) := by decide +kernel
theorem dL_law_1507 : decode cL_law 1507 = .ok (.iaload, 1) := by decide +kernel
theorem dL_law_1508 : decode cL_law 1508 = .ok (.aload_n 0, 1) := by decide +kernel
theorem dL_law_1509 : decode cL_law 1509 = .ok (.iload 4, 2) := by decide +kernel
theorem dL_law_1511 : decode cL_law 1511 = .ok (.iconst 2, 1) := by decide +kernel
theorem dL_law_1512 : decode cL_law 1512 = .ok (.iadd, 1) := by decide +kernel
theorem dL_law_1513 : decode cL_law 1513 = .ok (.iaload, 1) := by decide +kernel
theorem dL_law_1514 : decode cL_law 1514 = .ok (.i2l, 1) := by decide +kernel
theorem dL_law_1515 : decode cL_law 1515 = .ok (.bipush 32, 2) := by decide +kernel
theorem dL_law_1517 : decode cL_law 1517 = .ok (.lshl, 1) := by decide +kernel
theorem dL_law_1518 : decode cL_law 1518 = .ok (.aload_n 0, 1) := by decide +kernel
theorem dL_law_1519 : decode cL_law 1519 = .ok (.iload 4, 2) := by decide +kernel
theorem dL_law_1521 : decode cL_law 1521 = .ok (.iconst 3, 1) := by decide +kernel
theorem dL_law_1522 : decode cL_law 1522 = .ok (.iadd, 1) := by decide +kernel
theorem dL_law_1523 : decode cL_law 1523 = .ok (.iaload, 1) := by decide +kernel
theorem dL_law_1524 : decode cL_law 1524 = .ok (.i2l, 1) := by decide +kernel
theorem dL_law_1525 : decode cL_law 1525 = .ok (.ldc2_w 62, 3) := by decide +kernel
theorem dL_law_1528 : decode cL_law 1528 = .ok (.land, 1) := by decide +kernel
theorem dL_law_1529 : decode cL_law 1529 = .ok (.lor, 1) := by decide +kernel
theorem dL_law_1530 : decode cL_law 1530 = .ok (.aload_n 0, 1) := by decide +kernel
theorem dL_law_1531 : decode cL_law 1531 = .ok (.iload 4, 2) := by decide +kernel
theorem dL_law_1533 : decode cL_law 1533 = .ok (.iconst 4, 1) := by decide +kernel
theorem dL_law_1534 : decode cL_law 1534 = .ok (.iadd, 1) := by decide +kernel
theorem dL_law_1535 : decode cL_law 1535 = .ok (.iaload, 1) := by decide +kernel
theorem dL_law_1536 : decode cL_law 1536 = .ok (.invokevirtual 125, 3) := by decide +kernel
theorem dL_law_1539 : decode cL_law 1539 = .ok (.if_icmp .eq 253, 3) := by decide +kernel
set_option maxHeartbeats 4000000 in
set_option maxRecDepth 100000 in
theorem law_21 {p : Program} {l : Launch} {e : Env} {s : State} {m : MethodId} {below : List Frame} {meth : Method} {c : Code} {b : Nat} {xs : Nat → Int32} {dC : Nat → ClassId} {dI : Nat → Nat → Nat} {ad : Nat → Nat} {h0 : Nat} {g0 : Nat} {o0 : Nat} {jT : Nat} {jR : Nat} {e2 : Nat} {jL : Nat} {jU : Nat} {jF : Nat} {e6 : Nat} {jN : Nat} {jA : Nat} {e9 : Nat} {t0 : Nat} {r1 : Nat} {r2 : Nat} {l0 : Nat} {m0 : Nat} {f0 : Nat} {f1 : Nat} {f2 : Nat} {f3 : Nat} {f4 : Nat} {n0 : Nat} {n1 : Nat} {n2 : Nat} {n3 : Nat} {n4 : Nat} {a0 : Nat} {a1 : Nat} {a2 : Nat} {a3 : Nat} {cC : ClassId} {cL : ClassId} {cM : ClassId} {z0 : ClassId} {z1 : ClassId} {z2 : ClassId} {z4 : ClassId} {b1 : Nat} {b2 : Nat} {b3 : Nat} {b4 : Nat} {b19 : Nat} {b20 : Nat} {b21 : Nat} {b22 : Nat} {b23 : Nat} {b24 : Nat} {b25 : Nat} {b28 : Nat} {b29 : Nat} {b30 : Nat} {b31 : Nat} {b32 : Nat} {b33 : Nat} {b34 : Nat} {b35 : Nat} {b36 : Nat} {b40 : Nat} {b41 : Nat} {b42 : Nat} {b43 : Nat} {b44 : Nat} {b46 : Nat} {b47 : Nat} {b48 : Nat} {b49 : Nat} {b50 : Nat} {y1 : ClassId} {y19 : ClassId} {y20 : ClassId} {y21 : ClassId} {y22 : ClassId} {y23 : ClassId} {y24 : ClassId} {y25 : ClassId} {cO : ClassId} (C0 : lw_At p s m meth c b 7 xs) (hXX : kLaw ad s) {H : Heap} {locs : List Loc} (hK : va_K (dC, dI) vwCl [(cC, .char), (cL, .object RX6), (cM, .object RX6), (z0, .int), (z1, .int), (z2, .int), (z4, .int), (y1, .byte), (y19, .int), (y20, .int), (y21, .int), (y22, .int), (y23, .int), (y24, .int), (y25, .boolean), (cO, .long)] s) (hP : va_P (dC, dI) vwCl [(h0, .inr (9, [.ref jT, .ref jR, .ref e2, .ref jL, .ref jU, .ref jF, .ref e6, .ref jN, .ref jA, .ref e9])), (jT, .inr (8, [.ref t0, .int 0])), (t0, .inl (cC, 120, .inl (fun _ => 0))), (jR, .inr (4, [.ref jT, .ref r1, .ref r2, .int 0, .int 0, .int 0, .ref (ad 0), .ref (ad 0)])), (jL, .inr (7, [.ref l0, .int 0])), (l0, .inl (cL, 6, .inr (.inr (.inr (.inr (fun _ => none)))))), (jU, .inr (7, [.ref m0, .int 0])), (m0, .inl (cM, 8, .inr (.inr (.inr (.inr (fun _ => none)))))), (jF, .inr (2, [.ref f0, .ref f1, .ref f2, .ref f3, .ref f4, .int 0, .int 0, .int 0])), (f0, .inl (z0, 10, .inl (fun _ => 0))), (f1, .inl (z1, 10, .inl (fun _ => 0))), (f2, .inl (z2, 10, .inl (fun _ => 0))), (f4, .inl (z4, 4, .inl (fun _ => 0))), (jN, .inr (3, [.ref n0, .ref n1, .ref n2, .ref n3, .ref n4, .int 0])), (jA, .inr (0, [.ref a0, .ref a1, .ref a2, .ref a3, .int 0])), (g0, .inr (10, [.int 0, .ref b1, .ref b2, .ref b3, .ref b4, .ref b1, .int 0, .int 0, .int 0, .int 0, .int 0, .int 0, .int 0, .int 0, .int 0, .int 0, .ref (ad 5), .ref (ad 7), .int 0, .ref b19, .ref b20, .ref b21, .ref b22, .ref b23, .ref b24, .ref b25, .int 0, .int 0, .ref b28, .ref b29, .ref b30, .ref b31, .ref b32, .ref b33, .ref b34, .ref b35, .ref b36, .int 0, .int 0, .long 0, .ref b40, .ref b41, .ref b42, .ref b43, .ref b44, .int 0, .ref b46, .ref b47, .ref b48, .ref b49, .ref b50, .int 0])), (b1, .inl (y1, 120, .inl (fun _ => 0))), (b19, .inl (y19, 10, .inl (fun _ => 0))), (b20, .inl (y20, 10, .inl (fun _ => 0))), (b21, .inl (y21, 10, .inl (fun _ => 0))), (b22, .inl (y22, 10, .inl (fun _ => 0))), (b23, .inl (y23, 10, .inl (fun _ => 0))), (b24, .inl (y24, 4, .inl (fun _ => 0))), (b25, .inl (y25, 10, .inl (fun _ => 0))), (o0, .inl (cO, 1, .inr (.inl (fun _ => 0))))] H) (hD : va_D (fun q : Nat => s.heap.size ≤ q) [(h0, .inr (9, [.ref jT, .ref jR, .ref e2, .ref jL, .ref jU, .ref jF, .ref e6, .ref jN, .ref jA, .ref e9])), (jT, .inr (8, [.ref t0, .int 0])), (t0, .inl (cC, 120, .inl (fun _ => 0))), (jR, .inr (4, [.ref jT, .ref r1, .ref r2, .int 0, .int 0, .int 0, .ref (ad 0), .ref (ad 0)])), (jL, .inr (7, [.ref l0, .int 0])), (l0, .inl (cL, 6, .inr (.inr (.inr (.inr (fun _ => none)))))), (jU, .inr (7, [.ref m0, .int 0])), (m0, .inl (cM, 8, .inr (.inr (.inr (.inr (fun _ => none)))))), (jF, .inr (2, [.ref f0, .ref f1, .ref f2, .ref f3, .ref f4, .int 0, .int 0, .int 0])), (f0, .inl (z0, 10, .inl (fun _ => 0))), (f1, .inl (z1, 10, .inl (fun _ => 0))), (f2, .inl (z2, 10, .inl (fun _ => 0))), (f4, .inl (z4, 4, .inl (fun _ => 0))), (jN, .inr (3, [.ref n0, .ref n1, .ref n2, .ref n3, .ref n4, .int 0])), (jA, .inr (0, [.ref a0, .ref a1, .ref a2, .ref a3, .int 0])), (g0, .inr (10, [.int 0, .ref b1, .ref b2, .ref b3, .ref b4, .ref b1, .int 0, .int 0, .int 0, .int 0, .int 0, .int 0, .int 0, .int 0, .int 0, .int 0, .ref (ad 5), .ref (ad 7), .int 0, .ref b19, .ref b20, .ref b21, .ref b22, .ref b23, .ref b24, .ref b25, .int 0, .int 0, .ref b28, .ref b29, .ref b30, .ref b31, .ref b32, .ref b33, .ref b34, .ref b35, .ref b36, .int 0, .int 0, .long 0, .ref b40, .ref b41, .ref b42, .ref b43, .ref b44, .int 0, .ref b46, .ref b47, .ref b48, .ref b49, .ref b50, .int 0])), (b1, .inl (y1, 120, .inl (fun _ => 0))), (b19, .inl (y19, 10, .inl (fun _ => 0))), (b20, .inl (y20, 10, .inl (fun _ => 0))), (b21, .inl (y21, 10, .inl (fun _ => 0))), (b22, .inl (y22, 10, .inl (fun _ => 0))), (b23, .inl (y23, 10, .inl (fun _ => 0))), (b24, .inl (y24, 4, .inl (fun _ => 0))), (b25, .inl (y25, 10, .inl (fun _ => 0))), (o0, .inl (cO, 1, .inr (.inl (fun _ => 0))))]) (hS : va_S (fun q : Nat => s.heap.size ≤ q) s.heap H locs) {ls : Array Slot} (hl : lv_has ls 7 [(4, .int 0), (3, .ref o0), (2, .ref g0), (1, .ref h0), (0, .ref b)]) (hlt : l.stackTraces = false) : W p l e room_1 s m #[Value.ref b] below meth c H locs 76 3048 (lw_Z below #[Value.ref b] s) (F0 m 1463 ls []) := by
  obtain ⟨hx, hb, hr, hml, hown, hts, hX, hbl, hlocks, hgv⟩ := id C0
  have hown : s.vm.findClass RL = some m.cls := hown
  have hA : ∀ q : Nat, s.heap.size ≤ q → (fun q : Nat => s.heap.size ≤ q) q := fun _ h => h
  have hbA : ¬ (fun q : Nat => s.heap.size ≤ q) b := Nat.not_le.mpr hbl
  refine lv_aload_n hx hb dL_law_1463 rfl (lv_at hl 3 rfl) ?_
  refine lv_aload_n hx hb dL_law_1464 rfl (lv_at hl 4 rfl) ?_
  refine lv_iload hx hb dL_law_1465 (lv_at hl 0 rfl) ?_
  refine lv_iconst (v := 1) hx hb dL_law_1467 (by decide) ?_
  refine lv_iadd hx hb dL_law_1468 ?_
  refine lv_topi (fun y_1 ey_1 => ?_)
  obtain rfl : y_1 = 1 := ey_1.trans (by decide)
  refine va_sld hx hb hX hbl hbA hS (by unfold vp_in; decide) dL_law_1469 ?_
  refine lv_aload_n hx hb dL_law_1470 rfl (lv_at hl 4 rfl) ?_
  refine lv_iload hx hb dL_law_1471 (lv_at hl 0 rfl) ?_
  refine lv_iconst (v := 2) hx hb dL_law_1473 (by decide) ?_
  refine lv_iadd hx hb dL_law_1474 ?_
  refine lv_topi (fun y_2 ey_2 => ?_)
  obtain rfl : y_2 = 2 := ey_2.trans (by decide)
  refine va_sld hx hb hX hbl hbA hS (by unfold vp_in; decide) dL_law_1475 ?_
  obtain ⟨z_3, ez_3⟩ : ∃ z : Int64, z = Int32.toInt64 (xs (Int32.toNatClampNeg 2)) := ⟨_, rfl⟩
  refine lv_i2l (v := z_3) hx hb dL_law_1476 ez_3.symm ?_
  refine lv_bipush (v := 32) hx hb dL_law_1477 (by decide) ?_
  refine lv_lshl (v := z_3 <<< (Int32.toInt64 32 &&& 63)) hx hb dL_law_1479 rfl ?_
  refine lv_topl (fun z_4 ez_4 => ?_)
  refine lv_aload_n hx hb dL_law_1480 rfl (lv_at hl 4 rfl) ?_
  refine lv_iload hx hb dL_law_1481 (lv_at hl 0 rfl) ?_
  refine lv_iconst (v := 3) hx hb dL_law_1483 (by decide) ?_
  refine lv_iadd hx hb dL_law_1484 ?_
  refine lv_topi (fun y_5 ey_5 => ?_)
  obtain rfl : y_5 = 3 := ey_5.trans (by decide)
  refine va_sld hx hb hX hbl hbA hS (by unfold vp_in; decide) dL_law_1485 ?_
  obtain ⟨z_6, ez_6⟩ : ∃ z : Int64, z = Int32.toInt64 (xs (Int32.toNatClampNeg 3)) := ⟨_, rfl⟩
  refine lv_i2l (v := z_6) hx hb dL_law_1486 ez_6.symm ?_
  refine lv_ldc2 (v := 4294967295) hx hb hown (hts (.constantLong RL 62 (4294967295)) tw_1577) dL_law_1487 ?_
  refine lv_land hx hb dL_law_1490 ?_
  refine lv_topl (fun z_7 ez_7 => ?_)
  refine lv_lor hx hb dL_law_1491 ?_
  refine lv_topl (fun z_8 ez_8 => ?_)
  refine lv_aload_n hx hb dL_law_1492 rfl (lv_at hl 4 rfl) ?_
  refine lv_iload hx hb dL_law_1493 (lv_at hl 0 rfl) ?_
  refine lv_iconst (v := 4) hx hb dL_law_1495 (by decide) ?_
  refine lv_iadd hx hb dL_law_1496 ?_
  refine lv_topi (fun y_9 ey_9 => ?_)
  obtain rfl : y_9 = 4 := ey_9.trans (by decide)
  refine va_sld hx hb hX hbl hbA hS (by unfold vp_in; decide) dL_law_1497 ?_
  have hPc := hP.sub (ws' := [(h0, .inr (9, [.ref jT, .ref jR, .ref e2, .ref jL, .ref jU, .ref jF, .ref e6, .ref jN, .ref jA, .ref e9])), (jL, .inr (7, [.ref l0, .int 0]))]) [0, 4] rfl
  have hKc := hK.sub (tys' := []) [] rfl
  refine vp_callSi (va_runV (As := [.int (xs (Int32.toNatClampNeg 1)), .long z_8, .int (xs (Int32.toNatClampNeg 4))]) (rest := []) ⟨hx, hb, hml, hown, hts⟩ (c_stayed9 l dC dI h0 jL (.ref jT : Value) (.ref jR : Value) (.ref e2 : Value) (.ref jU : Value) (.ref jF : Value) (.ref e6 : Value) (.ref jN : Value) (.ref jA : Value) (.ref e9 : Value) (.ref l0 : Value) (xs (Int32.toNatClampNeg 1)) z_8 (xs (Int32.toNatClampNeg 4))) (cwV 3 hts (kG (List.forall_mem_cons.mpr ⟨tw_911, (List.forall_mem_cons.mpr ⟨tw_912, (List.forall_mem_cons.mpr ⟨tw_913, (List.forall_mem_cons.mpr ⟨tw_75, (fun _ h => absurd h List.not_mem_nil)⟩)⟩)⟩)⟩) (by decide +kernel) in_w_c_stayed9 gw_c_stayed9) rfl rfl rfl (by decide +kernel) ⟨(Nat.le_of_ble_eq_true rfl), (Nat.le_of_ble_eq_true rfl)⟩) (kR_V kT_blind kT_give (va_recv hKc hPc (ci := 9) (q0 := 0) rfl rfl) hPc hKc) rfl rfl hl.1 rfl (lv_room (Nat.le_of_ble_eq_true rfl)) dL_law_1498 ⟨(Nat.le_of_ble_eq_true rfl), (Nat.le_of_ble_eq_true rfl)⟩).run (fun r_10 hw => ?_)
  obtain rfl : r_10 = (-1) := hw
  refine lv_aload_n hx hb dL_law_1501 rfl (lv_at hl 2 rfl) ?_
  refine lv_aload_n hx hb dL_law_1502 rfl (lv_at hl 4 rfl) ?_
  refine lv_iload hx hb dL_law_1503 (lv_at hl 0 rfl) ?_
  refine lv_iconst (v := 1) hx hb dL_law_1505 (by decide) ?_
  refine lv_iadd hx hb dL_law_1506 ?_
  refine lv_topi (fun y_11 ey_11 => ?_)
  obtain rfl : y_11 = 1 := ey_11.trans (by decide)
  refine va_sld hx hb hX hbl hbA hS (by unfold vp_in; decide) dL_law_1507 ?_
  refine lv_aload_n hx hb dL_law_1508 rfl (lv_at hl 4 rfl) ?_
  refine lv_iload hx hb dL_law_1509 (lv_at hl 0 rfl) ?_
  refine lv_iconst (v := 2) hx hb dL_law_1511 (by decide) ?_
  refine lv_iadd hx hb dL_law_1512 ?_
  refine lv_topi (fun y_12 ey_12 => ?_)
  obtain rfl : y_12 = 2 := ey_12.trans (by decide)
  refine va_sld hx hb hX hbl hbA hS (by unfold vp_in; decide) dL_law_1513 ?_
  obtain ⟨z_13, ez_13⟩ : ∃ z : Int64, z = Int32.toInt64 (xs (Int32.toNatClampNeg 2)) := ⟨_, rfl⟩
  refine lv_i2l (v := z_13) hx hb dL_law_1514 ez_13.symm ?_
  refine lv_bipush (v := 32) hx hb dL_law_1515 (by decide) ?_
  refine lv_lshl (v := z_13 <<< (Int32.toInt64 32 &&& 63)) hx hb dL_law_1517 rfl ?_
  refine lv_topl (fun z_14 ez_14 => ?_)
  refine lv_aload_n hx hb dL_law_1518 rfl (lv_at hl 4 rfl) ?_
  refine lv_iload hx hb dL_law_1519 (lv_at hl 0 rfl) ?_
  refine lv_iconst (v := 3) hx hb dL_law_1521 (by decide) ?_
  refine lv_iadd hx hb dL_law_1522 ?_
  refine lv_topi (fun y_15 ey_15 => ?_)
  obtain rfl : y_15 = 3 := ey_15.trans (by decide)
  refine va_sld hx hb hX hbl hbA hS (by unfold vp_in; decide) dL_law_1523 ?_
  obtain ⟨z_16, ez_16⟩ : ∃ z : Int64, z = Int32.toInt64 (xs (Int32.toNatClampNeg 3)) := ⟨_, rfl⟩
  refine lv_i2l (v := z_16) hx hb dL_law_1524 ez_16.symm ?_
  refine lv_ldc2 (v := 4294967295) hx hb hown (hts (.constantLong RL 62 (4294967295)) tw_1577) dL_law_1525 ?_
  refine lv_land hx hb dL_law_1528 ?_
  refine lv_topl (fun z_17 ez_17 => ?_)
  refine lv_lor hx hb dL_law_1529 ?_
  refine lv_topl (fun z_18 ez_18 => ?_)
  refine lv_aload_n hx hb dL_law_1530 rfl (lv_at hl 4 rfl) ?_
  refine lv_iload hx hb dL_law_1531 (lv_at hl 0 rfl) ?_
  refine lv_iconst (v := 4) hx hb dL_law_1533 (by decide) ?_
  refine lv_iadd hx hb dL_law_1534 ?_
  refine lv_topi (fun y_19 ey_19 => ?_)
  obtain rfl : y_19 = 4 := ey_19.trans (by decide)
  refine va_sld hx hb hX hbl hbA hS (by unfold vp_in; decide) dL_law_1535 ?_
  have hPc := hP.sub (ws' := [(g0, .inr (10, [.int 0, .ref b1, .ref b2, .ref b3, .ref b4, .ref b1, .int 0, .int 0, .int 0, .int 0, .int 0, .int 0, .int 0, .int 0, .int 0, .int 0, .ref (ad 5), .ref (ad 7), .int 0, .ref b19, .ref b20, .ref b21, .ref b22, .ref b23, .ref b24, .ref b25, .int 0, .int 0, .ref b28, .ref b29, .ref b30, .ref b31, .ref b32, .ref b33, .ref b34, .ref b35, .ref b36, .int 0, .int 0, .long 0, .ref b40, .ref b41, .ref b42, .ref b43, .ref b44, .int 0, .ref b46, .ref b47, .ref b48, .ref b49, .ref b50, .int 0]))]) [15] rfl
  have hKc := hK.sub (tys' := []) [] rfl
  have hDc := hD.sub (ws' := [(g0, .inr (10, [.int 0, .ref b1, .ref b2, .ref b3, .ref b4, .ref b1, .int 0, .int 0, .int 0, .int 0, .int 0, .int 0, .int 0, .int 0, .int 0, .int 0, .ref (ad 5), .ref (ad 7), .int 0, .ref b19, .ref b20, .ref b21, .ref b22, .ref b23, .ref b24, .ref b25, .int 0, .int 0, .ref b28, .ref b29, .ref b30, .ref b31, .ref b32, .ref b33, .ref b34, .ref b35, .ref b36, .int 0, .int 0, .long 0, .ref b40, .ref b41, .ref b42, .ref b43, .ref b44, .int 0, .ref b46, .ref b47, .ref b48, .ref b49, .ref b50, .int 0]))]) [15] (by decide) rfl
  have hFc := va_free (wc := [(g0, .inr (10, [.int 0, .ref b1, .ref b2, .ref b3, .ref b4, .ref b1, .int 0, .int 0, .int 0, .int 0, .int 0, .int 0, .int 0, .int 0, .int 0, .int 0, .ref (ad 5), .ref (ad 7), .int 0, .ref b19, .ref b20, .ref b21, .ref b22, .ref b23, .ref b24, .ref b25, .int 0, .int 0, .ref b28, .ref b29, .ref b30, .ref b31, .ref b32, .ref b33, .ref b34, .ref b35, .ref b36, .int 0, .int 0, .long 0, .ref b40, .ref b41, .ref b42, .ref b43, .ref b44, .int 0, .ref b46, .ref b47, .ref b48, .ref b49, .ref b50, .int 0]))]) hD hS hA [15] rfl
  refine va_calli (va_runV (As := [.int (xs (Int32.toNatClampNeg 1)), .long z_18, .int (xs (Int32.toNatClampNeg 4))]) (rest := [.int (-1)]) ⟨hx, hb, hml, hown, hts⟩ (c_stayed10 l dC dI g0 (.int 0 : Value) (.ref b1 : Value) (.ref b2 : Value) (.ref b3 : Value) (.ref b4 : Value) (.ref b1 : Value) (.int 0 : Value) (.int 0 : Value) (.int 0 : Value) (.int 0 : Value) (.int 0 : Value) (.int 0 : Value) (.int 0 : Value) (.int 0 : Value) (.int 0 : Value) (.ref (ad 5) : Value) (.ref (ad 7) : Value) (.int 0 : Value) (.ref b19 : Value) (.ref b20 : Value) (.ref b21 : Value) (.ref b22 : Value) (.ref b23 : Value) (.ref b24 : Value) (.ref b25 : Value) (.int 0 : Value) (.int 0 : Value) (.ref b28 : Value) (.ref b29 : Value) (.ref b30 : Value) (.ref b31 : Value) (.ref b32 : Value) (.ref b33 : Value) (.ref b34 : Value) (.ref b35 : Value) (.ref b36 : Value) (.int 0 : Value) (.int 0 : Value) (.long 0 : Value) (.ref b40 : Value) (.ref b41 : Value) (.ref b42 : Value) (.ref b43 : Value) (.ref b44 : Value) (.int 0 : Value) (.ref b46 : Value) (.ref b47 : Value) (.ref b48 : Value) (.ref b49 : Value) (.ref b50 : Value) (.int 0 : Value) (xs (Int32.toNatClampNeg 1)) z_18 (xs (Int32.toNatClampNeg 4)) H.size) (cwV 3 hts (kG (List.forall_mem_cons.mpr ⟨tw_1537, (List.forall_mem_cons.mpr ⟨tw_1538, (List.forall_mem_cons.mpr ⟨tw_1539, (List.forall_mem_cons.mpr ⟨tw_85, (fun _ h => absurd h List.not_mem_nil)⟩)⟩)⟩)⟩) (by decide +kernel) in_w_c_stayed10 gw_c_stayed10) rfl rfl rfl (by decide +kernel) ⟨(Nat.le_of_ble_eq_true rfl), (Nat.le_of_ble_eq_true rfl)⟩) (kW_V kT_blind kT_give (va_recv hKc hPc (ci := 10) (q0 := 0) rfl rfl) hPc hKc hDc) rfl rfl hl.1 rfl (lv_room (Nat.le_of_ble_eq_true rfl)) dL_law_1536 ⟨(Nat.le_of_ble_eq_true rfl), (Nat.le_of_ble_eq_true rfl)⟩) hS (fun q _ h => hFc q h) hFc (fun r_20 u t H1 locs ht hvm hw hB hz1 hk1 hS => ?_)
  have hP1 : va_P (dC, dI) vwCl [] H1 := fun k q h => by simp at h
  have hD1 : va_D (va_A [(g0, .inr (10, [.int 0, .ref b1, .ref b2, .ref b3, .ref b4, .ref b1, .int 0, .int 0, .int 0, .int 0, .int 0, .int 0, .int 0, .int 0, .int 0, .int 0, .ref (ad 5), .ref (ad 7), .int 0, .ref b19, .ref b20, .ref b21, .ref b22, .ref b23, .ref b24, .ref b25, .int 0, .int 0, .ref b28, .ref b29, .ref b30, .ref b31, .ref b32, .ref b33, .ref b34, .ref b35, .ref b36, .int 0, .int 0, .long 0, .ref b40, .ref b41, .ref b42, .ref b43, .ref b44, .int 0, .ref b46, .ref b47, .ref b48, .ref b49, .ref b50, .int 0]))] H.size) [] := ⟨fun i j p q h => by simp at h, fun k q h => by simp at h⟩
  try dsimp only at hw
  obtain ⟨hP, hD⟩ := va_join (wr := [(h0, .inr (9, [.ref jT, .ref jR, .ref e2, .ref jL, .ref jU, .ref jF, .ref e6, .ref jN, .ref jA, .ref e9])), (jT, .inr (8, [.ref t0, .int 0])), (t0, .inl (cC, 120, .inl (fun _ => 0))), (jR, .inr (4, [.ref jT, .ref r1, .ref r2, .int 0, .int 0, .int 0, .ref (ad 0), .ref (ad 0)])), (jL, .inr (7, [.ref l0, .int 0])), (l0, .inl (cL, 6, .inr (.inr (.inr (.inr (fun _ => none)))))), (jU, .inr (7, [.ref m0, .int 0])), (m0, .inl (cM, 8, .inr (.inr (.inr (.inr (fun _ => none)))))), (jF, .inr (2, [.ref f0, .ref f1, .ref f2, .ref f3, .ref f4, .int 0, .int 0, .int 0])), (f0, .inl (z0, 10, .inl (fun _ => 0))), (f1, .inl (z1, 10, .inl (fun _ => 0))), (f2, .inl (z2, 10, .inl (fun _ => 0))), (f4, .inl (z4, 4, .inl (fun _ => 0))), (jN, .inr (3, [.ref n0, .ref n1, .ref n2, .ref n3, .ref n4, .int 0])), (jA, .inr (0, [.ref a0, .ref a1, .ref a2, .ref a3, .int 0])), (b1, .inl (y1, 120, .inl (fun _ => 0))), (b19, .inl (y19, 10, .inl (fun _ => 0))), (b20, .inl (y20, 10, .inl (fun _ => 0))), (b21, .inl (y21, 10, .inl (fun _ => 0))), (b22, .inl (y22, 10, .inl (fun _ => 0))), (b23, .inl (y23, 10, .inl (fun _ => 0))), (b24, .inl (y24, 4, .inl (fun _ => 0))), (b25, .inl (y25, 10, .inl (fun _ => 0))), (o0, .inl (cO, 1, .inr (.inl (fun _ => 0))))]) (w1 := []) hP hD [15] [0, 1, 2, 3, 4, 5, 6, 7, 8, 9, 10, 11, 12, 13, 14, 16, 17, 18, 19, 20, 21, 22, 23, 24] rfl rfl (by decide) (by decide) hk1 hFc hP1 hD1
  generalize H1 = H at hP hS ⊢
  have hP : va_P (dC, dI) vwCl [(h0, .inr (9, [.ref jT, .ref jR, .ref e2, .ref jL, .ref jU, .ref jF, .ref e6, .ref jN, .ref jA, .ref e9])), (jT, .inr (8, [.ref t0, .int 0])), (t0, .inl (cC, 120, .inl (fun _ => 0))), (jR, .inr (4, [.ref jT, .ref r1, .ref r2, .int 0, .int 0, .int 0, .ref (ad 0), .ref (ad 0)])), (jL, .inr (7, [.ref l0, .int 0])), (l0, .inl (cL, 6, .inr (.inr (.inr (.inr (fun _ => none)))))), (jU, .inr (7, [.ref m0, .int 0])), (m0, .inl (cM, 8, .inr (.inr (.inr (.inr (fun _ => none)))))), (jF, .inr (2, [.ref f0, .ref f1, .ref f2, .ref f3, .ref f4, .int 0, .int 0, .int 0])), (f0, .inl (z0, 10, .inl (fun _ => 0))), (f1, .inl (z1, 10, .inl (fun _ => 0))), (f2, .inl (z2, 10, .inl (fun _ => 0))), (f4, .inl (z4, 4, .inl (fun _ => 0))), (jN, .inr (3, [.ref n0, .ref n1, .ref n2, .ref n3, .ref n4, .int 0])), (jA, .inr (0, [.ref a0, .ref a1, .ref a2, .ref a3, .int 0])), (b1, .inl (y1, 120, .inl (fun _ => 0))), (b19, .inl (y19, 10, .inl (fun _ => 0))), (b20, .inl (y20, 10, .inl (fun _ => 0))), (b21, .inl (y21, 10, .inl (fun _ => 0))), (b22, .inl (y22, 10, .inl (fun _ => 0))), (b23, .inl (y23, 10, .inl (fun _ => 0))), (b24, .inl (y24, 4, .inl (fun _ => 0))), (b25, .inl (y25, 10, .inl (fun _ => 0))), (o0, .inl (cO, 1, .inr (.inl (fun _ => 0))))] H := hP
  have hD : va_D (fun q : Nat => s.heap.size ≤ q) [(h0, .inr (9, [.ref jT, .ref jR, .ref e2, .ref jL, .ref jU, .ref jF, .ref e6, .ref jN, .ref jA, .ref e9])), (jT, .inr (8, [.ref t0, .int 0])), (t0, .inl (cC, 120, .inl (fun _ => 0))), (jR, .inr (4, [.ref jT, .ref r1, .ref r2, .int 0, .int 0, .int 0, .ref (ad 0), .ref (ad 0)])), (jL, .inr (7, [.ref l0, .int 0])), (l0, .inl (cL, 6, .inr (.inr (.inr (.inr (fun _ => none)))))), (jU, .inr (7, [.ref m0, .int 0])), (m0, .inl (cM, 8, .inr (.inr (.inr (.inr (fun _ => none)))))), (jF, .inr (2, [.ref f0, .ref f1, .ref f2, .ref f3, .ref f4, .int 0, .int 0, .int 0])), (f0, .inl (z0, 10, .inl (fun _ => 0))), (f1, .inl (z1, 10, .inl (fun _ => 0))), (f2, .inl (z2, 10, .inl (fun _ => 0))), (f4, .inl (z4, 4, .inl (fun _ => 0))), (jN, .inr (3, [.ref n0, .ref n1, .ref n2, .ref n3, .ref n4, .int 0])), (jA, .inr (0, [.ref a0, .ref a1, .ref a2, .ref a3, .int 0])), (b1, .inl (y1, 120, .inl (fun _ => 0))), (b19, .inl (y19, 10, .inl (fun _ => 0))), (b20, .inl (y20, 10, .inl (fun _ => 0))), (b21, .inl (y21, 10, .inl (fun _ => 0))), (b22, .inl (y22, 10, .inl (fun _ => 0))), (b23, .inl (y23, 10, .inl (fun _ => 0))), (b24, .inl (y24, 4, .inl (fun _ => 0))), (b25, .inl (y25, 10, .inl (fun _ => 0))), (o0, .inl (cO, 1, .inr (.inl (fun _ => 0))))] := hD
  obtain rfl : r_20 = (-1) := hw
  refine lv_icmp_eq (tgt := 1792) hx hb dL_law_1539 (by decide) (fun c_21 => ?_) (fun c_21 => absurd (by decide) c_21)
  exact law_tail C0 hS (Nat.le_of_ble_eq_true rfl) (Nat.le_of_ble_eq_true rfl) (lv_sub hl [0, 1, 2, 3, 4] rfl)

theorem dL_law_1544 : decode cL_law 1544 = .ok (.aload_n 1, 1) := by decide +kernel
theorem dL_law_1545 : decode cL_law 1545 = .ok (.aload_n 0, 1) := by decide +kernel
theorem dL_law_1546 : decode cL_law 1546 = .ok (.iload 4, 2) := by decide +kernel
theorem dL_law_1548 : decode cL_law 1548 = .ok (.iconst 1, 1) := by decide +kernel
theorem dL_law_1549 : decode cL_law 1549 = .ok (.iadd, 1) := by decide +kernel
theorem dL_law_1550 : decode cL_law 1550 = .ok (.iaload, 1) := by decide +kernel
theorem dL_law_1551 : decode cL_law 1551 = .ok (.aload_n 0, 1) := by decide +kernel
theorem dL_law_1552 : decode cL_law 1552 = .ok (.iload 4, 2) := by decide +kernel
theorem dL_law_1554 : decode cL_law 1554 = .ok (.iconst 2, 1) := by decide +kernel
theorem dL_law_1555 : decode cL_law 1555 = .ok (.iadd, 1) := by decide +kernel
theorem dL_law_1556 : decode cL_law 1556 = .ok (.iaload, 1) := by decide +kernel
theorem dL_law_1557 : decode cL_law 1557 = .ok (.aload_n 0, 1) := by decide +kernel
theorem dL_law_1558 : decode cL_law 1558 = .ok (.iload 4, 2) := by decide +kernel
theorem dL_law_1560 : decode cL_law 1560 = .ok (.iconst 3, 1) := by decide +kernel
theorem dL_law_1561 : decode cL_law 1561 = .ok (.iadd, 1) := by decide +kernel
theorem dL_law_1562 : decode cL_law 1562 = .ok (.iaload, 1) := by decide +kernel
theorem dL_law_1563 : decode cL_law 1563 = .ok (.aload_n 0, 1) := by decide +kernel
theorem dL_law_1564 : decode cL_law 1564 = .ok (.iload 4, 2) := by decide +kernel
theorem dL_law_1566 : decode cL_law 1566 = .ok (.iconst 4, 1) := by decide +kernel
theorem dL_law_1567 : decode cL_law 1567 = .ok (.iadd, 1) := by decide +kernel
theorem dL_law_1568 : decode cL_law 1568 = .ok (.iaload, 1) := by decide +kernel
theorem dL_law_1569 : decode cL_law 1569 = .ok (.invokevirtual 126, 3) := by decide +kernel
theorem dL_law_1572 : decode cL_law 1572 = .ok (.aload_n 2, 1) := by decide +kernel
theorem dL_law_1573 : decode cL_law 1573 = .ok (.aload_n 0, 1) := by decide +kernel
theorem dL_law_1574 : decode cL_law 1574 = .ok (.iload 4, 2) := by decide +kernel
theorem dL_law_1576 : decode cL_law 1576 = .ok (.iconst 1, 1) := by decide +kernel
theorem dL_law_1577 : decode cL_law 1577 = .ok (.iadd, 1) := by decide +kernel
theorem dL_law_1578 : decode cL_law 1578 = .ok (.iaload, 1) := by decide +kernel
theorem dL_law_1579 : decode cL_law 1579 = .ok (.aload_n 0, 1) := by decide +kernel
theorem dL_law_1580 : decode cL_law 1580 = .ok (.iload 4, 2) := by decide +kernel
theorem dL_law_1582 : decode cL_law 1582 = .ok (.iconst 2, 1) := by decide +kernel
theorem dL_law_1583 : decode cL_law 1583 = .ok (.iadd, 1) := by decide +kernel
theorem dL_law_1584 : decode cL_law 1584 = .ok (.iaload, 1) := by decide +kernel
theorem dL_law_1585 : decode cL_law 1585 = .ok (.aload_n 0, 1) := by decide +kernel
theorem dL_law_1586 : decode cL_law 1586 = .ok (.iload 4, 2) := by decide +kernel
theorem dL_law_1588 : decode cL_law 1588 = .ok (.iconst 3, 1) := by decide +kernel
theorem dL_law_1589 : decode cL_law 1589 = .ok (.iadd, 1) := by decide +kernel
theorem dL_law_1590 : decode cL_law 1590 = .ok (.iaload, 1) := by decide +kernel
theorem dL_law_1591 : decode cL_law 1591 = .ok (.aload_n 0, 1) := by decide +kernel
theorem dL_law_1592 : decode cL_law 1592 = .ok (.iload 4, 2) := by decide +kernel
theorem dL_law_1594 : decode cL_law 1594 = .ok (.iconst 4, 1) := by decide +kernel
theorem dL_law_1595 : decode cL_law 1595 = .ok (.iadd, 1) := by decide +kernel
theorem dL_law_1596 : decode cL_law 1596 = .ok (.iaload, 1) := by decide +kernel
theorem dL_law_1597 : decode cL_law 1597 = .ok (.invokevirtual 130, 3) := by decide +kernel
theorem dL_law_1600 : decode cL_law 1600 = .ok (.if_icmp .eq 192, 3) := by decide +kernel
set_option maxHeartbeats 4000000 in
set_option maxRecDepth 100000 in
theorem law_22 {p : Program} {l : Launch} {e : Env} {s : State} {m : MethodId} {below : List Frame} {meth : Method} {c : Code} {b : Nat} {xs : Nat → Int32} {dC : Nat → ClassId} {dI : Nat → Nat → Nat} {ad : Nat → Nat} {h0 : Nat} {g0 : Nat} {o0 : Nat} {jT : Nat} {jR : Nat} {e2 : Nat} {jL : Nat} {jU : Nat} {jF : Nat} {e6 : Nat} {jN : Nat} {jA : Nat} {e9 : Nat} {t0 : Nat} {r1 : Nat} {r2 : Nat} {l0 : Nat} {m0 : Nat} {f0 : Nat} {f1 : Nat} {f2 : Nat} {f3 : Nat} {f4 : Nat} {n0 : Nat} {n1 : Nat} {n2 : Nat} {n3 : Nat} {n4 : Nat} {a0 : Nat} {a1 : Nat} {a2 : Nat} {a3 : Nat} {cC : ClassId} {cL : ClassId} {cM : ClassId} {z0 : ClassId} {z1 : ClassId} {z2 : ClassId} {z4 : ClassId} {b1 : Nat} {b2 : Nat} {b3 : Nat} {b4 : Nat} {b19 : Nat} {b20 : Nat} {b21 : Nat} {b22 : Nat} {b23 : Nat} {b24 : Nat} {b25 : Nat} {b28 : Nat} {b29 : Nat} {b30 : Nat} {b31 : Nat} {b32 : Nat} {b33 : Nat} {b34 : Nat} {b35 : Nat} {b36 : Nat} {b40 : Nat} {b41 : Nat} {b42 : Nat} {b43 : Nat} {b44 : Nat} {b46 : Nat} {b47 : Nat} {b48 : Nat} {b49 : Nat} {b50 : Nat} {y1 : ClassId} {y19 : ClassId} {y20 : ClassId} {y21 : ClassId} {y22 : ClassId} {y23 : ClassId} {y24 : ClassId} {y25 : ClassId} {cO : ClassId} (C0 : lw_At p s m meth c b 7 xs) (hXX : kLaw ad s) {H : Heap} {locs : List Loc} (hK : va_K (dC, dI) vwCl [(cC, .char), (cL, .object RX6), (cM, .object RX6), (z0, .int), (z1, .int), (z2, .int), (z4, .int), (y1, .byte), (y19, .int), (y20, .int), (y21, .int), (y22, .int), (y23, .int), (y24, .int), (y25, .boolean), (cO, .long)] s) (hP : va_P (dC, dI) vwCl [(h0, .inr (9, [.ref jT, .ref jR, .ref e2, .ref jL, .ref jU, .ref jF, .ref e6, .ref jN, .ref jA, .ref e9])), (jT, .inr (8, [.ref t0, .int 0])), (t0, .inl (cC, 120, .inl (fun _ => 0))), (jR, .inr (4, [.ref jT, .ref r1, .ref r2, .int 0, .int 0, .int 0, .ref (ad 0), .ref (ad 0)])), (jL, .inr (7, [.ref l0, .int 0])), (l0, .inl (cL, 6, .inr (.inr (.inr (.inr (fun _ => none)))))), (jU, .inr (7, [.ref m0, .int 0])), (m0, .inl (cM, 8, .inr (.inr (.inr (.inr (fun _ => none)))))), (jF, .inr (2, [.ref f0, .ref f1, .ref f2, .ref f3, .ref f4, .int 0, .int 0, .int 0])), (f0, .inl (z0, 10, .inl (fun _ => 0))), (f1, .inl (z1, 10, .inl (fun _ => 0))), (f2, .inl (z2, 10, .inl (fun _ => 0))), (f4, .inl (z4, 4, .inl (fun _ => 0))), (jN, .inr (3, [.ref n0, .ref n1, .ref n2, .ref n3, .ref n4, .int 0])), (jA, .inr (0, [.ref a0, .ref a1, .ref a2, .ref a3, .int 0])), (g0, .inr (10, [.int 0, .ref b1, .ref b2, .ref b3, .ref b4, .ref b1, .int 0, .int 0, .int 0, .int 0, .int 0, .int 0, .int 0, .int 0, .int 0, .int 0, .ref (ad 5), .ref (ad 7), .int 0, .ref b19, .ref b20, .ref b21, .ref b22, .ref b23, .ref b24, .ref b25, .int 0, .int 0, .ref b28, .ref b29, .ref b30, .ref b31, .ref b32, .ref b33, .ref b34, .ref b35, .ref b36, .int 0, .int 0, .long 0, .ref b40, .ref b41, .ref b42, .ref b43, .ref b44, .int 0, .ref b46, .ref b47, .ref b48, .ref b49, .ref b50, .int 0])), (b1, .inl (y1, 120, .inl (fun _ => 0))), (b19, .inl (y19, 10, .inl (fun _ => 0))), (b20, .inl (y20, 10, .inl (fun _ => 0))), (b21, .inl (y21, 10, .inl (fun _ => 0))), (b22, .inl (y22, 10, .inl (fun _ => 0))), (b23, .inl (y23, 10, .inl (fun _ => 0))), (b24, .inl (y24, 4, .inl (fun _ => 0))), (b25, .inl (y25, 10, .inl (fun _ => 0))), (o0, .inl (cO, 1, .inr (.inl (fun _ => 0))))] H) (hD : va_D (fun q : Nat => s.heap.size ≤ q) [(h0, .inr (9, [.ref jT, .ref jR, .ref e2, .ref jL, .ref jU, .ref jF, .ref e6, .ref jN, .ref jA, .ref e9])), (jT, .inr (8, [.ref t0, .int 0])), (t0, .inl (cC, 120, .inl (fun _ => 0))), (jR, .inr (4, [.ref jT, .ref r1, .ref r2, .int 0, .int 0, .int 0, .ref (ad 0), .ref (ad 0)])), (jL, .inr (7, [.ref l0, .int 0])), (l0, .inl (cL, 6, .inr (.inr (.inr (.inr (fun _ => none)))))), (jU, .inr (7, [.ref m0, .int 0])), (m0, .inl (cM, 8, .inr (.inr (.inr (.inr (fun _ => none)))))), (jF, .inr (2, [.ref f0, .ref f1, .ref f2, .ref f3, .ref f4, .int 0, .int 0, .int 0])), (f0, .inl (z0, 10, .inl (fun _ => 0))), (f1, .inl (z1, 10, .inl (fun _ => 0))), (f2, .inl (z2, 10, .inl (fun _ => 0))), (f4, .inl (z4, 4, .inl (fun _ => 0))), (jN, .inr (3, [.ref n0, .ref n1, .ref n2, .ref n3, .ref n4, .int 0])), (jA, .inr (0, [.ref a0, .ref a1, .ref a2, .ref a3, .int 0])), (g0, .inr (10, [.int 0, .ref b1, .ref b2, .ref b3, .ref b4, .ref b1, .int 0, .int 0, .int 0, .int 0, .int 0, .int 0, .int 0, .int 0, .int 0, .int 0, .ref (ad 5), .ref (ad 7), .int 0, .ref b19, .ref b20, .ref b21, .ref b22, .ref b23, .ref b24, .ref b25, .int 0, .int 0, .ref b28, .ref b29, .ref b30, .ref b31, .ref b32, .ref b33, .ref b34, .ref b35, .ref b36, .int 0, .int 0, .long 0, .ref b40, .ref b41, .ref b42, .ref b43, .ref b44, .int 0, .ref b46, .ref b47, .ref b48, .ref b49, .ref b50, .int 0])), (b1, .inl (y1, 120, .inl (fun _ => 0))), (b19, .inl (y19, 10, .inl (fun _ => 0))), (b20, .inl (y20, 10, .inl (fun _ => 0))), (b21, .inl (y21, 10, .inl (fun _ => 0))), (b22, .inl (y22, 10, .inl (fun _ => 0))), (b23, .inl (y23, 10, .inl (fun _ => 0))), (b24, .inl (y24, 4, .inl (fun _ => 0))), (b25, .inl (y25, 10, .inl (fun _ => 0))), (o0, .inl (cO, 1, .inr (.inl (fun _ => 0))))]) (hS : va_S (fun q : Nat => s.heap.size ≤ q) s.heap H locs) {ls : Array Slot} (hl : lv_has ls 7 [(4, .int 0), (3, .ref o0), (2, .ref g0), (1, .ref h0), (0, .ref b)]) (hlt : l.stackTraces = false) : W p l e room_1 s m #[Value.ref b] below meth c H locs 76 3048 (lw_Z below #[Value.ref b] s) (F0 m 1544 ls []) := by
  obtain ⟨hx, hb, hr, hml, hown, hts, hX, hbl, hlocks, hgv⟩ := id C0
  have hown : s.vm.findClass RL = some m.cls := hown
  have hA : ∀ q : Nat, s.heap.size ≤ q → (fun q : Nat => s.heap.size ≤ q) q := fun _ h => h
  have hbA : ¬ (fun q : Nat => s.heap.size ≤ q) b := Nat.not_le.mpr hbl
  refine lv_aload_n hx hb dL_law_1544 rfl (lv_at hl 3 rfl) ?_
  refine lv_aload_n hx hb dL_law_1545 rfl (lv_at hl 4 rfl) ?_
  refine lv_iload hx hb dL_law_1546 (lv_at hl 0 rfl) ?_
  refine lv_iconst (v := 1) hx hb dL_law_1548 (by decide) ?_
  refine lv_iadd hx hb dL_law_1549 ?_
  refine lv_topi (fun y_1 ey_1 => ?_)
  obtain rfl : y_1 = 1 := ey_1.trans (by decide)
  refine va_sld hx hb hX hbl hbA hS (by unfold vp_in; decide) dL_law_1550 ?_
  refine lv_aload_n hx hb dL_law_1551 rfl (lv_at hl 4 rfl) ?_
  refine lv_iload hx hb dL_law_1552 (lv_at hl 0 rfl) ?_
  refine lv_iconst (v := 2) hx hb dL_law_1554 (by decide) ?_
  refine lv_iadd hx hb dL_law_1555 ?_
  refine lv_topi (fun y_2 ey_2 => ?_)
  obtain rfl : y_2 = 2 := ey_2.trans (by decide)
  refine va_sld hx hb hX hbl hbA hS (by unfold vp_in; decide) dL_law_1556 ?_
  refine lv_aload_n hx hb dL_law_1557 rfl (lv_at hl 4 rfl) ?_
  refine lv_iload hx hb dL_law_1558 (lv_at hl 0 rfl) ?_
  refine lv_iconst (v := 3) hx hb dL_law_1560 (by decide) ?_
  refine lv_iadd hx hb dL_law_1561 ?_
  refine lv_topi (fun y_3 ey_3 => ?_)
  obtain rfl : y_3 = 3 := ey_3.trans (by decide)
  refine va_sld hx hb hX hbl hbA hS (by unfold vp_in; decide) dL_law_1562 ?_
  refine lv_aload_n hx hb dL_law_1563 rfl (lv_at hl 4 rfl) ?_
  refine lv_iload hx hb dL_law_1564 (lv_at hl 0 rfl) ?_
  refine lv_iconst (v := 4) hx hb dL_law_1566 (by decide) ?_
  refine lv_iadd hx hb dL_law_1567 ?_
  refine lv_topi (fun y_4 ey_4 => ?_)
  obtain rfl : y_4 = 4 := ey_4.trans (by decide)
  refine va_sld hx hb hX hbl hbA hS (by unfold vp_in; decide) dL_law_1568 ?_
  have hPc := hP.sub (ws' := [(h0, .inr (9, [.ref jT, .ref jR, .ref e2, .ref jL, .ref jU, .ref jF, .ref e6, .ref jN, .ref jA, .ref e9])), (jF, .inr (2, [.ref f0, .ref f1, .ref f2, .ref f3, .ref f4, .int 0, .int 0, .int 0]))]) [0, 8] rfl
  have hKc := hK.sub (tys' := []) [] rfl
  refine vp_callSi (va_runV (As := [.int (xs (Int32.toNatClampNeg 1)), .int (xs (Int32.toNatClampNeg 2)), .int (xs (Int32.toNatClampNeg 3)), .int (xs (Int32.toNatClampNeg 4))]) (rest := []) ⟨hx, hb, hml, hown, hts⟩ (c_act9 l dC dI h0 jF (.ref jT : Value) (.ref jR : Value) (.ref e2 : Value) (.ref jL : Value) (.ref jU : Value) (.ref e6 : Value) (.ref jN : Value) (.ref jA : Value) (.ref e9 : Value) (.ref f0 : Value) (.ref f1 : Value) (.ref f2 : Value) (.ref f3 : Value) (.ref f4 : Value) (.int 0 : Value) (.int 0 : Value) (xs (Int32.toNatClampNeg 1)) (xs (Int32.toNatClampNeg 2)) (xs (Int32.toNatClampNeg 3)) (xs (Int32.toNatClampNeg 4))) (cwV 4 hts (kG (List.forall_mem_cons.mpr ⟨tw_916, (List.forall_mem_cons.mpr ⟨tw_917, (List.forall_mem_cons.mpr ⟨tw_918, (List.forall_mem_cons.mpr ⟨tw_75, (fun _ h => absurd h List.not_mem_nil)⟩)⟩)⟩)⟩) (by decide +kernel) in_w_c_act9 gw_c_act9) rfl rfl rfl (by decide +kernel) ⟨(Nat.le_of_ble_eq_true rfl), (Nat.le_of_ble_eq_true rfl)⟩) (kR_V kT_blind kT_give (va_recv hKc hPc (ci := 9) (q0 := 0) rfl rfl) hPc hKc) rfl rfl hl.1 rfl (lv_room (Nat.le_of_ble_eq_true rfl)) dL_law_1569 ⟨(Nat.le_of_ble_eq_true rfl), (Nat.le_of_ble_eq_true rfl)⟩).run (fun r_5 hw => ?_)
  obtain rfl : r_5 = (-1) := hw
  refine lv_aload_n hx hb dL_law_1572 rfl (lv_at hl 2 rfl) ?_
  refine lv_aload_n hx hb dL_law_1573 rfl (lv_at hl 4 rfl) ?_
  refine lv_iload hx hb dL_law_1574 (lv_at hl 0 rfl) ?_
  refine lv_iconst (v := 1) hx hb dL_law_1576 (by decide) ?_
  refine lv_iadd hx hb dL_law_1577 ?_
  refine lv_topi (fun y_6 ey_6 => ?_)
  obtain rfl : y_6 = 1 := ey_6.trans (by decide)
  refine va_sld hx hb hX hbl hbA hS (by unfold vp_in; decide) dL_law_1578 ?_
  refine lv_aload_n hx hb dL_law_1579 rfl (lv_at hl 4 rfl) ?_
  refine lv_iload hx hb dL_law_1580 (lv_at hl 0 rfl) ?_
  refine lv_iconst (v := 2) hx hb dL_law_1582 (by decide) ?_
  refine lv_iadd hx hb dL_law_1583 ?_
  refine lv_topi (fun y_7 ey_7 => ?_)
  obtain rfl : y_7 = 2 := ey_7.trans (by decide)
  refine va_sld hx hb hX hbl hbA hS (by unfold vp_in; decide) dL_law_1584 ?_
  refine lv_aload_n hx hb dL_law_1585 rfl (lv_at hl 4 rfl) ?_
  refine lv_iload hx hb dL_law_1586 (lv_at hl 0 rfl) ?_
  refine lv_iconst (v := 3) hx hb dL_law_1588 (by decide) ?_
  refine lv_iadd hx hb dL_law_1589 ?_
  refine lv_topi (fun y_8 ey_8 => ?_)
  obtain rfl : y_8 = 3 := ey_8.trans (by decide)
  refine va_sld hx hb hX hbl hbA hS (by unfold vp_in; decide) dL_law_1590 ?_
  refine lv_aload_n hx hb dL_law_1591 rfl (lv_at hl 4 rfl) ?_
  refine lv_iload hx hb dL_law_1592 (lv_at hl 0 rfl) ?_
  refine lv_iconst (v := 4) hx hb dL_law_1594 (by decide) ?_
  refine lv_iadd hx hb dL_law_1595 ?_
  refine lv_topi (fun y_9 ey_9 => ?_)
  obtain rfl : y_9 = 4 := ey_9.trans (by decide)
  refine va_sld hx hb hX hbl hbA hS (by unfold vp_in; decide) dL_law_1596 ?_
  have hPc := hP.sub (ws' := [(g0, .inr (10, [.int 0, .ref b1, .ref b2, .ref b3, .ref b4, .ref b1, .int 0, .int 0, .int 0, .int 0, .int 0, .int 0, .int 0, .int 0, .int 0, .int 0, .ref (ad 5), .ref (ad 7), .int 0, .ref b19, .ref b20, .ref b21, .ref b22, .ref b23, .ref b24, .ref b25, .int 0, .int 0, .ref b28, .ref b29, .ref b30, .ref b31, .ref b32, .ref b33, .ref b34, .ref b35, .ref b36, .int 0, .int 0, .long 0, .ref b40, .ref b41, .ref b42, .ref b43, .ref b44, .int 0, .ref b46, .ref b47, .ref b48, .ref b49, .ref b50, .int 0]))]) [15] rfl
  have hKc := hK.sub (tys' := []) [] rfl
  have hDc := hD.sub (ws' := [(g0, .inr (10, [.int 0, .ref b1, .ref b2, .ref b3, .ref b4, .ref b1, .int 0, .int 0, .int 0, .int 0, .int 0, .int 0, .int 0, .int 0, .int 0, .int 0, .ref (ad 5), .ref (ad 7), .int 0, .ref b19, .ref b20, .ref b21, .ref b22, .ref b23, .ref b24, .ref b25, .int 0, .int 0, .ref b28, .ref b29, .ref b30, .ref b31, .ref b32, .ref b33, .ref b34, .ref b35, .ref b36, .int 0, .int 0, .long 0, .ref b40, .ref b41, .ref b42, .ref b43, .ref b44, .int 0, .ref b46, .ref b47, .ref b48, .ref b49, .ref b50, .int 0]))]) [15] (by decide) rfl
  have hFc := va_free (wc := [(g0, .inr (10, [.int 0, .ref b1, .ref b2, .ref b3, .ref b4, .ref b1, .int 0, .int 0, .int 0, .int 0, .int 0, .int 0, .int 0, .int 0, .int 0, .int 0, .ref (ad 5), .ref (ad 7), .int 0, .ref b19, .ref b20, .ref b21, .ref b22, .ref b23, .ref b24, .ref b25, .int 0, .int 0, .ref b28, .ref b29, .ref b30, .ref b31, .ref b32, .ref b33, .ref b34, .ref b35, .ref b36, .int 0, .int 0, .long 0, .ref b40, .ref b41, .ref b42, .ref b43, .ref b44, .int 0, .ref b46, .ref b47, .ref b48, .ref b49, .ref b50, .int 0]))]) hD hS hA [15] rfl
  refine va_calli (va_runV (As := [.int (xs (Int32.toNatClampNeg 1)), .int (xs (Int32.toNatClampNeg 2)), .int (xs (Int32.toNatClampNeg 3)), .int (xs (Int32.toNatClampNeg 4))]) (rest := [.int (-1)]) ⟨hx, hb, hml, hown, hts⟩ (c_act10 l dC dI g0 (.int 0 : Value) (.ref b1 : Value) (.ref b2 : Value) (.ref b3 : Value) (.ref b4 : Value) (.ref b1 : Value) (.int 0 : Value) (.int 0 : Value) (.int 0 : Value) (.int 0 : Value) (.int 0 : Value) (.int 0 : Value) (.int 0 : Value) (.int 0 : Value) (.int 0 : Value) (.int 0 : Value) (.ref (ad 5) : Value) (.ref (ad 7) : Value) (.int 0 : Value) (.ref b19 : Value) (.ref b20 : Value) (.ref b21 : Value) (.ref b22 : Value) (.ref b23 : Value) (.ref b24 : Value) (.ref b25 : Value) (.int 0 : Value) (.ref b28 : Value) (.ref b29 : Value) (.ref b30 : Value) (.ref b31 : Value) (.ref b32 : Value) (.ref b33 : Value) (.ref b34 : Value) (.ref b35 : Value) (.ref b36 : Value) (.int 0 : Value) (.int 0 : Value) (.long 0 : Value) (.ref b40 : Value) (.ref b41 : Value) (.ref b42 : Value) (.ref b43 : Value) (.ref b44 : Value) (.int 0 : Value) (.ref b46 : Value) (.ref b47 : Value) (.ref b48 : Value) (.ref b49 : Value) (.ref b50 : Value) (xs (Int32.toNatClampNeg 1)) (xs (Int32.toNatClampNeg 2)) (xs (Int32.toNatClampNeg 3)) (xs (Int32.toNatClampNeg 4)) H.size) (cwV 4 hts (kG (List.forall_mem_cons.mpr ⟨tw_1541, (List.forall_mem_cons.mpr ⟨tw_1542, (List.forall_mem_cons.mpr ⟨tw_1543, (List.forall_mem_cons.mpr ⟨tw_85, (fun _ h => absurd h List.not_mem_nil)⟩)⟩)⟩)⟩) (by decide +kernel) in_w_c_act10 gw_c_act10) rfl rfl rfl (by decide +kernel) ⟨(Nat.le_of_ble_eq_true rfl), (Nat.le_of_ble_eq_true rfl)⟩) (kW_V kT_blind kT_give (va_recv hKc hPc (ci := 10) (q0 := 0) rfl rfl) hPc hKc hDc) rfl rfl hl.1 rfl (lv_room (Nat.le_of_ble_eq_true rfl)) dL_law_1597 ⟨(Nat.le_of_ble_eq_true rfl), (Nat.le_of_ble_eq_true rfl)⟩) hS (fun q _ h => hFc q h) hFc (fun r_10 u t H1 locs ht hvm hw hB hz1 hk1 hS => ?_)
  have hP1 : va_P (dC, dI) vwCl [] H1 := fun k q h => by simp at h
  have hD1 : va_D (va_A [(g0, .inr (10, [.int 0, .ref b1, .ref b2, .ref b3, .ref b4, .ref b1, .int 0, .int 0, .int 0, .int 0, .int 0, .int 0, .int 0, .int 0, .int 0, .int 0, .ref (ad 5), .ref (ad 7), .int 0, .ref b19, .ref b20, .ref b21, .ref b22, .ref b23, .ref b24, .ref b25, .int 0, .int 0, .ref b28, .ref b29, .ref b30, .ref b31, .ref b32, .ref b33, .ref b34, .ref b35, .ref b36, .int 0, .int 0, .long 0, .ref b40, .ref b41, .ref b42, .ref b43, .ref b44, .int 0, .ref b46, .ref b47, .ref b48, .ref b49, .ref b50, .int 0]))] H.size) [] := ⟨fun i j p q h => by simp at h, fun k q h => by simp at h⟩
  try dsimp only at hw
  obtain ⟨hP, hD⟩ := va_join (wr := [(h0, .inr (9, [.ref jT, .ref jR, .ref e2, .ref jL, .ref jU, .ref jF, .ref e6, .ref jN, .ref jA, .ref e9])), (jT, .inr (8, [.ref t0, .int 0])), (t0, .inl (cC, 120, .inl (fun _ => 0))), (jR, .inr (4, [.ref jT, .ref r1, .ref r2, .int 0, .int 0, .int 0, .ref (ad 0), .ref (ad 0)])), (jL, .inr (7, [.ref l0, .int 0])), (l0, .inl (cL, 6, .inr (.inr (.inr (.inr (fun _ => none)))))), (jU, .inr (7, [.ref m0, .int 0])), (m0, .inl (cM, 8, .inr (.inr (.inr (.inr (fun _ => none)))))), (jF, .inr (2, [.ref f0, .ref f1, .ref f2, .ref f3, .ref f4, .int 0, .int 0, .int 0])), (f0, .inl (z0, 10, .inl (fun _ => 0))), (f1, .inl (z1, 10, .inl (fun _ => 0))), (f2, .inl (z2, 10, .inl (fun _ => 0))), (f4, .inl (z4, 4, .inl (fun _ => 0))), (jN, .inr (3, [.ref n0, .ref n1, .ref n2, .ref n3, .ref n4, .int 0])), (jA, .inr (0, [.ref a0, .ref a1, .ref a2, .ref a3, .int 0])), (b1, .inl (y1, 120, .inl (fun _ => 0))), (b19, .inl (y19, 10, .inl (fun _ => 0))), (b20, .inl (y20, 10, .inl (fun _ => 0))), (b21, .inl (y21, 10, .inl (fun _ => 0))), (b22, .inl (y22, 10, .inl (fun _ => 0))), (b23, .inl (y23, 10, .inl (fun _ => 0))), (b24, .inl (y24, 4, .inl (fun _ => 0))), (b25, .inl (y25, 10, .inl (fun _ => 0))), (o0, .inl (cO, 1, .inr (.inl (fun _ => 0))))]) (w1 := []) hP hD [15] [0, 1, 2, 3, 4, 5, 6, 7, 8, 9, 10, 11, 12, 13, 14, 16, 17, 18, 19, 20, 21, 22, 23, 24] rfl rfl (by decide) (by decide) hk1 hFc hP1 hD1
  generalize H1 = H at hP hS ⊢
  have hP : va_P (dC, dI) vwCl [(h0, .inr (9, [.ref jT, .ref jR, .ref e2, .ref jL, .ref jU, .ref jF, .ref e6, .ref jN, .ref jA, .ref e9])), (jT, .inr (8, [.ref t0, .int 0])), (t0, .inl (cC, 120, .inl (fun _ => 0))), (jR, .inr (4, [.ref jT, .ref r1, .ref r2, .int 0, .int 0, .int 0, .ref (ad 0), .ref (ad 0)])), (jL, .inr (7, [.ref l0, .int 0])), (l0, .inl (cL, 6, .inr (.inr (.inr (.inr (fun _ => none)))))), (jU, .inr (7, [.ref m0, .int 0])), (m0, .inl (cM, 8, .inr (.inr (.inr (.inr (fun _ => none)))))), (jF, .inr (2, [.ref f0, .ref f1, .ref f2, .ref f3, .ref f4, .int 0, .int 0, .int 0])), (f0, .inl (z0, 10, .inl (fun _ => 0))), (f1, .inl (z1, 10, .inl (fun _ => 0))), (f2, .inl (z2, 10, .inl (fun _ => 0))), (f4, .inl (z4, 4, .inl (fun _ => 0))), (jN, .inr (3, [.ref n0, .ref n1, .ref n2, .ref n3, .ref n4, .int 0])), (jA, .inr (0, [.ref a0, .ref a1, .ref a2, .ref a3, .int 0])), (b1, .inl (y1, 120, .inl (fun _ => 0))), (b19, .inl (y19, 10, .inl (fun _ => 0))), (b20, .inl (y20, 10, .inl (fun _ => 0))), (b21, .inl (y21, 10, .inl (fun _ => 0))), (b22, .inl (y22, 10, .inl (fun _ => 0))), (b23, .inl (y23, 10, .inl (fun _ => 0))), (b24, .inl (y24, 4, .inl (fun _ => 0))), (b25, .inl (y25, 10, .inl (fun _ => 0))), (o0, .inl (cO, 1, .inr (.inl (fun _ => 0))))] H := hP
  have hD : va_D (fun q : Nat => s.heap.size ≤ q) [(h0, .inr (9, [.ref jT, .ref jR, .ref e2, .ref jL, .ref jU, .ref jF, .ref e6, .ref jN, .ref jA, .ref e9])), (jT, .inr (8, [.ref t0, .int 0])), (t0, .inl (cC, 120, .inl (fun _ => 0))), (jR, .inr (4, [.ref jT, .ref r1, .ref r2, .int 0, .int 0, .int 0, .ref (ad 0), .ref (ad 0)])), (jL, .inr (7, [.ref l0, .int 0])), (l0, .inl (cL, 6, .inr (.inr (.inr (.inr (fun _ => none)))))), (jU, .inr (7, [.ref m0, .int 0])), (m0, .inl (cM, 8, .inr (.inr (.inr (.inr (fun _ => none)))))), (jF, .inr (2, [.ref f0, .ref f1, .ref f2, .ref f3, .ref f4, .int 0, .int 0, .int 0])), (f0, .inl (z0, 10, .inl (fun _ => 0))), (f1, .inl (z1, 10, .inl (fun _ => 0))), (f2, .inl (z2, 10, .inl (fun _ => 0))), (f4, .inl (z4, 4, .inl (fun _ => 0))), (jN, .inr (3, [.ref n0, .ref n1, .ref n2, .ref n3, .ref n4, .int 0])), (jA, .inr (0, [.ref a0, .ref a1, .ref a2, .ref a3, .int 0])), (b1, .inl (y1, 120, .inl (fun _ => 0))), (b19, .inl (y19, 10, .inl (fun _ => 0))), (b20, .inl (y20, 10, .inl (fun _ => 0))), (b21, .inl (y21, 10, .inl (fun _ => 0))), (b22, .inl (y22, 10, .inl (fun _ => 0))), (b23, .inl (y23, 10, .inl (fun _ => 0))), (b24, .inl (y24, 4, .inl (fun _ => 0))), (b25, .inl (y25, 10, .inl (fun _ => 0))), (o0, .inl (cO, 1, .inr (.inl (fun _ => 0))))] := hD
  obtain rfl : r_10 = (-1) := hw
  refine lv_icmp_eq (tgt := 1792) hx hb dL_law_1600 (by decide) (fun c_11 => ?_) (fun c_11 => absurd (by decide) c_11)
  exact law_tail C0 hS (Nat.le_of_ble_eq_true rfl) (Nat.le_of_ble_eq_true rfl) (lv_sub hl [0, 1, 2, 3, 4] rfl)

theorem dL_law_1605 : decode cL_law 1605 = .ok (.aload_n 1, 1) := by decide +kernel
theorem dL_law_1606 : decode cL_law 1606 = .ok (.aload_n 0, 1) := by decide +kernel
theorem dL_law_1607 : decode cL_law 1607 = .ok (.iload 4, 2) := by decide +kernel
theorem dL_law_1609 : decode cL_law 1609 = .ok (.iconst 1, 1) := by decide +kernel
theorem dL_law_1610 : decode cL_law 1610 = .ok (.iadd, 1) := by decide +kernel
theorem dL_law_1611 : decode cL_law 1611 = .ok (.iaload, 1) := by decide +kernel
theorem dL_law_1612 : decode cL_law 1612 = .ok (.aload_n 0, 1) := by decide +kernel
theorem dL_law_1613 : decode cL_law 1613 = .ok (.iload 4, 2) := by decide +kernel
theorem dL_law_1615 : decode cL_law 1615 = .ok (.iconst 2, 1) := by decide +kernel
theorem dL_law_1616 : decode cL_law 1616 = .ok (.iadd, 1) := by decide +kernel
theorem dL_law_1617 : decode cL_law 1617 = .ok (.iaload, 1) := by decide +kernel
theorem dL_law_1618 : decode cL_law 1618 = .ok (.i2l, 1) := by decide +kernel
theorem dL_law_1619 : decode cL_law 1619 = .ok (.bipush 32, 2) := by decide +kernel
theorem dL_law_1621 : decode cL_law 1621 = .ok (.lshl, 1) := by decide +kernel
theorem dL_law_1622 : decode cL_law 1622 = .ok (.aload_n 0, 1) := by decide +kernel
theorem dL_law_1623 : decode cL_law 1623 = .ok (.iload 4, 2) := by decide +kernel
theorem dL_law_1625 : decode cL_law 1625 = .ok (.iconst 3, 1) := by decide +kernel
theorem dL_law_1626 : decode cL_law 1626 = .ok (.iadd, 1) := by decide +kernel
theorem dL_law_1627 : decode cL_law 1627 = .ok (.iaload, 1) := by decide +kernel
theorem dL_law_1628 : decode cL_law 1628 = .ok (.i2l, 1) := by decide +kernel
theorem dL_law_1629 : decode cL_law 1629 = .ok (.ldc2_w 62, 3) := by decide +kernel
theorem dL_law_1632 : decode cL_law 1632 = .ok (.land, 1) := by decide +kernel
theorem dL_law_1633 : decode cL_law 1633 = .ok (.lor, 1) := by decide +kernel
theorem dL_law_1634 : decode cL_law 1634 = .ok (.aload_n 0, 1) := by decide +kernel
theorem dL_law_1635 : decode cL_law 1635 = .ok (.iload 4, 2) := by decide +kernel
theorem dL_law_1637 : decode cL_law 1637 = .ok (.iconst 4, 1) := by decide +kernel
theorem dL_law_1638 : decode cL_law 1638 = .ok (.iadd, 1) := by decide +kernel
theorem dL_law_1639 : decode cL_law 1639 = .ok (.iaload, 1) := by decide +kernel
theorem dL_law_1640 : decode cL_law 1640 = .ok (.aload_n 0, 1) := by decide +kernel
theorem dL_law_1641 : decode cL_law 1641 = .ok (.iload 4, 2) := by decide +kernel
theorem dL_law_1643 : decode cL_law 1643 = .ok (.iconst 5, 1) := by decide +kernel
theorem dL_law_1644 : decode cL_law 1644 = .ok (.iadd, 1) := by decide +kernel
theorem dL_law_1645 : decode cL_law 1645 = .ok (.iaload, 1) := by decide +kernel
theorem dL_law_1646 : decode cL_law 1646 = .ok (.invokevirtual 131, 3) := by decide +kernel
theorem dL_law_1649 : decode cL_law 1649 = .ok (.aload_n 2, 1) := by decide +kernel
theorem dL_law_1650 : decode cL_law 1650 = .ok (.aload_n 0, 1) := by decide +kernel
theorem dL_law_1651 : decode cL_law 1651 = .ok (.iload 4, 2) := by decide +kernel
theorem dL_law_1653 : decode cL_law 1653 = .ok (.iconst 1, 1) := by decide +kernel
theorem dL_law_1654 : decode cL_law 1654 = .ok (.iadd, 1) := by decide +kernel
theorem dL_law_1655 : decode cL_law 1655 = .ok (.iaload, 1) := by decide +kernel
theorem dL_law_1656 : decode cL_law 1656 = .ok (.aload_n 0, 1) := by decide +kernel
theorem dL_law_1657 : decode cL_law 1657 = .ok (.iload 4, 2) := by decide +kernel
theorem dL_law_1659 : decode cL_law 1659 = .ok (.iconst 2, 1) := by decide +kernel
theorem dL_law_1660 : decode cL_law 1660 = .ok (.iadd, 1) := by decide +kernel
theorem dL_law_1661 : decode cL_law 1661 = .ok (.iaload, 1) := by decide +kernel
theorem dL_law_1662 : decode cL_law 1662 = .ok (.i2l, 1) := by decide +kernel
theorem dL_law_1663 : decode cL_law 1663 = .ok (.bipush 32, 2) := by decide +kernel
theorem dL_law_1665 : decode cL_law 1665 = .ok (.lshl, 1) := by decide +kernel
theorem dL_law_1666 : decode cL_law 1666 = .ok (.aload_n 0, 1) := by decide +kernel
theorem dL_law_1667 : decode cL_law 1667 = .ok (.iload 4, 2) := by decide +kernel
theorem dL_law_1669 : decode cL_law 1669 = .ok (.iconst 3, 1) := by decide +kernel
theorem dL_law_1670 : decode cL_law 1670 = .ok (.iadd, 1) := by decide +kernel
theorem dL_law_1671 : decode cL_law 1671 = .ok (.iaload, 1) := by decide +kernel
theorem dL_law_1672 : decode cL_law 1672 = .ok (.i2l, 1) := by decide +kernel
theorem dL_law_1673 : decode cL_law 1673 = .ok (.ldc2_w 62, 3) := by decide +kernel
theorem dL_law_1676 : decode cL_law 1676 = .ok (.land, 1) := by decide +kernel
theorem dL_law_1677 : decode cL_law 1677 = .ok (.lor, 1) := by decide +kernel
theorem dL_law_1678 : decode cL_law 1678 = .ok (.aload_n 0, 1) := by decide +kernel
theorem dL_law_1679 : decode cL_law 1679 = .ok (.iload 4, 2) := by decide +kernel
theorem dL_law_1681 : decode cL_law 1681 = .ok (.iconst 4, 1) := by decide +kernel
theorem dL_law_1682 : decode cL_law 1682 = .ok (.iadd, 1) := by decide +kernel
theorem dL_law_1683 : decode cL_law 1683 = .ok (.iaload, 1) := by decide +kernel
theorem dL_law_1684 : decode cL_law 1684 = .ok (.aload_n 0, 1) := by decide +kernel
theorem dL_law_1685 : decode cL_law 1685 = .ok (.iload 4, 2) := by decide +kernel
theorem dL_law_1687 : decode cL_law 1687 = .ok (.iconst 5, 1) := by decide +kernel
theorem dL_law_1688 : decode cL_law 1688 = .ok (.iadd, 1) := by decide +kernel
theorem dL_law_1689 : decode cL_law 1689 = .ok (.iaload, 1) := by decide +kernel
theorem dL_law_1690 : decode cL_law 1690 = .ok (.invokevirtual 134, 3) := by decide +kernel
theorem dL_law_1693 : decode cL_law 1693 = .ok (.if_icmp .eq 99, 3) := by decide +kernel
set_option maxHeartbeats 4000000 in
set_option maxRecDepth 100000 in
theorem law_23 {p : Program} {l : Launch} {e : Env} {s : State} {m : MethodId} {below : List Frame} {meth : Method} {c : Code} {b : Nat} {xs : Nat → Int32} {dC : Nat → ClassId} {dI : Nat → Nat → Nat} {ad : Nat → Nat} {h0 : Nat} {g0 : Nat} {o0 : Nat} {jT : Nat} {jR : Nat} {e2 : Nat} {jL : Nat} {jU : Nat} {jF : Nat} {e6 : Nat} {jN : Nat} {jA : Nat} {e9 : Nat} {t0 : Nat} {r1 : Nat} {r2 : Nat} {l0 : Nat} {m0 : Nat} {f0 : Nat} {f1 : Nat} {f2 : Nat} {f3 : Nat} {f4 : Nat} {n0 : Nat} {n1 : Nat} {n2 : Nat} {n3 : Nat} {n4 : Nat} {a0 : Nat} {a1 : Nat} {a2 : Nat} {a3 : Nat} {cC : ClassId} {cL : ClassId} {cM : ClassId} {z0 : ClassId} {z1 : ClassId} {z2 : ClassId} {z4 : ClassId} {b1 : Nat} {b2 : Nat} {b3 : Nat} {b4 : Nat} {b19 : Nat} {b20 : Nat} {b21 : Nat} {b22 : Nat} {b23 : Nat} {b24 : Nat} {b25 : Nat} {b28 : Nat} {b29 : Nat} {b30 : Nat} {b31 : Nat} {b32 : Nat} {b33 : Nat} {b34 : Nat} {b35 : Nat} {b36 : Nat} {b40 : Nat} {b41 : Nat} {b42 : Nat} {b43 : Nat} {b44 : Nat} {b46 : Nat} {b47 : Nat} {b48 : Nat} {b49 : Nat} {b50 : Nat} {y1 : ClassId} {y19 : ClassId} {y20 : ClassId} {y21 : ClassId} {y22 : ClassId} {y23 : ClassId} {y24 : ClassId} {y25 : ClassId} {cO : ClassId} (C0 : lw_At p s m meth c b 7 xs) (hXX : kLaw ad s) {H : Heap} {locs : List Loc} (hK : va_K (dC, dI) vwCl [(cC, .char), (cL, .object RX6), (cM, .object RX6), (z0, .int), (z1, .int), (z2, .int), (z4, .int), (y1, .byte), (y19, .int), (y20, .int), (y21, .int), (y22, .int), (y23, .int), (y24, .int), (y25, .boolean), (cO, .long)] s) (hP : va_P (dC, dI) vwCl [(h0, .inr (9, [.ref jT, .ref jR, .ref e2, .ref jL, .ref jU, .ref jF, .ref e6, .ref jN, .ref jA, .ref e9])), (jT, .inr (8, [.ref t0, .int 0])), (t0, .inl (cC, 120, .inl (fun _ => 0))), (jR, .inr (4, [.ref jT, .ref r1, .ref r2, .int 0, .int 0, .int 0, .ref (ad 0), .ref (ad 0)])), (jL, .inr (7, [.ref l0, .int 0])), (l0, .inl (cL, 6, .inr (.inr (.inr (.inr (fun _ => none)))))), (jU, .inr (7, [.ref m0, .int 0])), (m0, .inl (cM, 8, .inr (.inr (.inr (.inr (fun _ => none)))))), (jF, .inr (2, [.ref f0, .ref f1, .ref f2, .ref f3, .ref f4, .int 0, .int 0, .int 0])), (f0, .inl (z0, 10, .inl (fun _ => 0))), (f1, .inl (z1, 10, .inl (fun _ => 0))), (f2, .inl (z2, 10, .inl (fun _ => 0))), (f4, .inl (z4, 4, .inl (fun _ => 0))), (jN, .inr (3, [.ref n0, .ref n1, .ref n2, .ref n3, .ref n4, .int 0])), (jA, .inr (0, [.ref a0, .ref a1, .ref a2, .ref a3, .int 0])), (g0, .inr (10, [.int 0, .ref b1, .ref b2, .ref b3, .ref b4, .ref b1, .int 0, .int 0, .int 0, .int 0, .int 0, .int 0, .int 0, .int 0, .int 0, .int 0, .ref (ad 5), .ref (ad 7), .int 0, .ref b19, .ref b20, .ref b21, .ref b22, .ref b23, .ref b24, .ref b25, .int 0, .int 0, .ref b28, .ref b29, .ref b30, .ref b31, .ref b32, .ref b33, .ref b34, .ref b35, .ref b36, .int 0, .int 0, .long 0, .ref b40, .ref b41, .ref b42, .ref b43, .ref b44, .int 0, .ref b46, .ref b47, .ref b48, .ref b49, .ref b50, .int 0])), (b1, .inl (y1, 120, .inl (fun _ => 0))), (b19, .inl (y19, 10, .inl (fun _ => 0))), (b20, .inl (y20, 10, .inl (fun _ => 0))), (b21, .inl (y21, 10, .inl (fun _ => 0))), (b22, .inl (y22, 10, .inl (fun _ => 0))), (b23, .inl (y23, 10, .inl (fun _ => 0))), (b24, .inl (y24, 4, .inl (fun _ => 0))), (b25, .inl (y25, 10, .inl (fun _ => 0))), (o0, .inl (cO, 1, .inr (.inl (fun _ => 0))))] H) (hD : va_D (fun q : Nat => s.heap.size ≤ q) [(h0, .inr (9, [.ref jT, .ref jR, .ref e2, .ref jL, .ref jU, .ref jF, .ref e6, .ref jN, .ref jA, .ref e9])), (jT, .inr (8, [.ref t0, .int 0])), (t0, .inl (cC, 120, .inl (fun _ => 0))), (jR, .inr (4, [.ref jT, .ref r1, .ref r2, .int 0, .int 0, .int 0, .ref (ad 0), .ref (ad 0)])), (jL, .inr (7, [.ref l0, .int 0])), (l0, .inl (cL, 6, .inr (.inr (.inr (.inr (fun _ => none)))))), (jU, .inr (7, [.ref m0, .int 0])), (m0, .inl (cM, 8, .inr (.inr (.inr (.inr (fun _ => none)))))), (jF, .inr (2, [.ref f0, .ref f1, .ref f2, .ref f3, .ref f4, .int 0, .int 0, .int 0])), (f0, .inl (z0, 10, .inl (fun _ => 0))), (f1, .inl (z1, 10, .inl (fun _ => 0))), (f2, .inl (z2, 10, .inl (fun _ => 0))), (f4, .inl (z4, 4, .inl (fun _ => 0))), (jN, .inr (3, [.ref n0, .ref n1, .ref n2, .ref n3, .ref n4, .int 0])), (jA, .inr (0, [.ref a0, .ref a1, .ref a2, .ref a3, .int 0])), (g0, .inr (10, [.int 0, .ref b1, .ref b2, .ref b3, .ref b4, .ref b1, .int 0, .int 0, .int 0, .int 0, .int 0, .int 0, .int 0, .int 0, .int 0, .int 0, .ref (ad 5), .ref (ad 7), .int 0, .ref b19, .ref b20, .ref b21, .ref b22, .ref b23, .ref b24, .ref b25, .int 0, .int 0, .ref b28, .ref b29, .ref b30, .ref b31, .ref b32, .ref b33, .ref b34, .ref b35, .ref b36, .int 0, .int 0, .long 0, .ref b40, .ref b41, .ref b42, .ref b43, .ref b44, .int 0, .ref b46, .ref b47, .ref b48, .ref b49, .ref b50, .int 0])), (b1, .inl (y1, 120, .inl (fun _ => 0))), (b19, .inl (y19, 10, .inl (fun _ => 0))), (b20, .inl (y20, 10, .inl (fun _ => 0))), (b21, .inl (y21, 10, .inl (fun _ => 0))), (b22, .inl (y22, 10, .inl (fun _ => 0))), (b23, .inl (y23, 10, .inl (fun _ => 0))), (b24, .inl (y24, 4, .inl (fun _ => 0))), (b25, .inl (y25, 10, .inl (fun _ => 0))), (o0, .inl (cO, 1, .inr (.inl (fun _ => 0))))]) (hS : va_S (fun q : Nat => s.heap.size ≤ q) s.heap H locs) {ls : Array Slot} (hl : lv_has ls 7 [(4, .int 0), (3, .ref o0), (2, .ref g0), (1, .ref h0), (0, .ref b)]) (hlt : l.stackTraces = false) : W p l e room_1 s m #[Value.ref b] below meth c H locs 76 3048 (lw_Z below #[Value.ref b] s) (F0 m 1605 ls []) := by
  obtain ⟨hx, hb, hr, hml, hown, hts, hX, hbl, hlocks, hgv⟩ := id C0
  have hown : s.vm.findClass RL = some m.cls := hown
  have hA : ∀ q : Nat, s.heap.size ≤ q → (fun q : Nat => s.heap.size ≤ q) q := fun _ h => h
  have hbA : ¬ (fun q : Nat => s.heap.size ≤ q) b := Nat.not_le.mpr hbl
  refine lv_aload_n hx hb dL_law_1605 rfl (lv_at hl 3 rfl) ?_
  refine lv_aload_n hx hb dL_law_1606 rfl (lv_at hl 4 rfl) ?_
  refine lv_iload hx hb dL_law_1607 (lv_at hl 0 rfl) ?_
  refine lv_iconst (v := 1) hx hb dL_law_1609 (by decide) ?_
  refine lv_iadd hx hb dL_law_1610 ?_
  refine lv_topi (fun y_1 ey_1 => ?_)
  obtain rfl : y_1 = 1 := ey_1.trans (by decide)
  refine va_sld hx hb hX hbl hbA hS (by unfold vp_in; decide) dL_law_1611 ?_
  refine lv_aload_n hx hb dL_law_1612 rfl (lv_at hl 4 rfl) ?_
  refine lv_iload hx hb dL_law_1613 (lv_at hl 0 rfl) ?_
  refine lv_iconst (v := 2) hx hb dL_law_1615 (by decide) ?_
  refine lv_iadd hx hb dL_law_1616 ?_
  refine lv_topi (fun y_2 ey_2 => ?_)
  obtain rfl : y_2 = 2 := ey_2.trans (by decide)
  refine va_sld hx hb hX hbl hbA hS (by unfold vp_in; decide) dL_law_1617 ?_
  obtain ⟨z_3, ez_3⟩ : ∃ z : Int64, z = Int32.toInt64 (xs (Int32.toNatClampNeg 2)) := ⟨_, rfl⟩
  refine lv_i2l (v := z_3) hx hb dL_law_1618 ez_3.symm ?_
  refine lv_bipush (v := 32) hx hb dL_law_1619 (by decide) ?_
  refine lv_lshl (v := z_3 <<< (Int32.toInt64 32 &&& 63)) hx hb dL_law_1621 rfl ?_
  refine lv_topl (fun z_4 ez_4 => ?_)
  refine lv_aload_n hx hb dL_law_1622 rfl (lv_at hl 4 rfl) ?_
  refine lv_iload hx hb dL_law_1623 (lv_at hl 0 rfl) ?_
  refine lv_iconst (v := 3) hx hb dL_law_1625 (by decide) ?_
  refine lv_iadd hx hb dL_law_1626 ?_
  refine lv_topi (fun y_5 ey_5 => ?_)
  obtain rfl : y_5 = 3 := ey_5.trans (by decide)
  refine va_sld hx hb hX hbl hbA hS (by unfold vp_in; decide) dL_law_1627 ?_
  obtain ⟨z_6, ez_6⟩ : ∃ z : Int64, z = Int32.toInt64 (xs (Int32.toNatClampNeg 3)) := ⟨_, rfl⟩
  refine lv_i2l (v := z_6) hx hb dL_law_1628 ez_6.symm ?_
  refine lv_ldc2 (v := 4294967295) hx hb hown (hts (.constantLong RL 62 (4294967295)) tw_1577) dL_law_1629 ?_
  refine lv_land hx hb dL_law_1632 ?_
  refine lv_topl (fun z_7 ez_7 => ?_)
  refine lv_lor hx hb dL_law_1633 ?_
  refine lv_topl (fun z_8 ez_8 => ?_)
  refine lv_aload_n hx hb dL_law_1634 rfl (lv_at hl 4 rfl) ?_
  refine lv_iload hx hb dL_law_1635 (lv_at hl 0 rfl) ?_
  refine lv_iconst (v := 4) hx hb dL_law_1637 (by decide) ?_
  refine lv_iadd hx hb dL_law_1638 ?_
  refine lv_topi (fun y_9 ey_9 => ?_)
  obtain rfl : y_9 = 4 := ey_9.trans (by decide)
  refine va_sld hx hb hX hbl hbA hS (by unfold vp_in; decide) dL_law_1639 ?_
  refine lv_aload_n hx hb dL_law_1640 rfl (lv_at hl 4 rfl) ?_
  refine lv_iload hx hb dL_law_1641 (lv_at hl 0 rfl) ?_
  refine lv_iconst (v := 5) hx hb dL_law_1643 (by decide) ?_
  refine lv_iadd hx hb dL_law_1644 ?_
  refine lv_topi (fun y_10 ey_10 => ?_)
  obtain rfl : y_10 = 5 := ey_10.trans (by decide)
  refine va_sld hx hb hX hbl hbA hS (by unfold vp_in; decide) dL_law_1645 ?_
  have hPc := hP.sub (ws' := [(h0, .inr (9, [.ref jT, .ref jR, .ref e2, .ref jL, .ref jU, .ref jF, .ref e6, .ref jN, .ref jA, .ref e9])), (jL, .inr (7, [.ref l0, .int 0]))]) [0, 4] rfl
  have hKc := hK.sub (tys' := []) [] rfl
  refine vp_callSi (va_runV (As := [.int (xs (Int32.toNatClampNeg 1)), .long z_8, .int (xs (Int32.toNatClampNeg 4)), .int (xs (Int32.toNatClampNeg 5))]) (rest := []) ⟨hx, hb, hml, hown, hts⟩ (c_help9 l dC dI h0 jL (.ref jT : Value) (.ref jR : Value) (.ref e2 : Value) (.ref jU : Value) (.ref jF : Value) (.ref e6 : Value) (.ref jN : Value) (.ref jA : Value) (.ref e9 : Value) (.ref l0 : Value) (xs (Int32.toNatClampNeg 1)) z_8 (xs (Int32.toNatClampNeg 4)) (xs (Int32.toNatClampNeg 5))) (cwV 4 hts (kG (List.forall_mem_cons.mpr ⟨tw_924, (List.forall_mem_cons.mpr ⟨tw_925, (List.forall_mem_cons.mpr ⟨tw_926, (List.forall_mem_cons.mpr ⟨tw_75, (fun _ h => absurd h List.not_mem_nil)⟩)⟩)⟩)⟩) (by decide +kernel) in_w_c_help9 gw_c_help9) rfl rfl rfl (by decide +kernel) ⟨(Nat.le_of_ble_eq_true rfl), (Nat.le_of_ble_eq_true rfl)⟩) (kR_V kT_blind kT_give (va_recv hKc hPc (ci := 9) (q0 := 0) rfl rfl) hPc hKc) rfl rfl hl.1 rfl (lv_room (Nat.le_of_ble_eq_true rfl)) dL_law_1646 ⟨(Nat.le_of_ble_eq_true rfl), (Nat.le_of_ble_eq_true rfl)⟩).run (fun r_11 hw => ?_)
  obtain rfl : r_11 = (-1) := hw
  refine lv_aload_n hx hb dL_law_1649 rfl (lv_at hl 2 rfl) ?_
  refine lv_aload_n hx hb dL_law_1650 rfl (lv_at hl 4 rfl) ?_
  refine lv_iload hx hb dL_law_1651 (lv_at hl 0 rfl) ?_
  refine lv_iconst (v := 1) hx hb dL_law_1653 (by decide) ?_
  refine lv_iadd hx hb dL_law_1654 ?_
  refine lv_topi (fun y_12 ey_12 => ?_)
  obtain rfl : y_12 = 1 := ey_12.trans (by decide)
  refine va_sld hx hb hX hbl hbA hS (by unfold vp_in; decide) dL_law_1655 ?_
  refine lv_aload_n hx hb dL_law_1656 rfl (lv_at hl 4 rfl) ?_
  refine lv_iload hx hb dL_law_1657 (lv_at hl 0 rfl) ?_
  refine lv_iconst (v := 2) hx hb dL_law_1659 (by decide) ?_
  refine lv_iadd hx hb dL_law_1660 ?_
  refine lv_topi (fun y_13 ey_13 => ?_)
  obtain rfl : y_13 = 2 := ey_13.trans (by decide)
  refine va_sld hx hb hX hbl hbA hS (by unfold vp_in; decide) dL_law_1661 ?_
  obtain ⟨z_14, ez_14⟩ : ∃ z : Int64, z = Int32.toInt64 (xs (Int32.toNatClampNeg 2)) := ⟨_, rfl⟩
  refine lv_i2l (v := z_14) hx hb dL_law_1662 ez_14.symm ?_
  refine lv_bipush (v := 32) hx hb dL_law_1663 (by decide) ?_
  refine lv_lshl (v := z_14 <<< (Int32.toInt64 32 &&& 63)) hx hb dL_law_1665 rfl ?_
  refine lv_topl (fun z_15 ez_15 => ?_)
  refine lv_aload_n hx hb dL_law_1666 rfl (lv_at hl 4 rfl) ?_
  refine lv_iload hx hb dL_law_1667 (lv_at hl 0 rfl) ?_
  refine lv_iconst (v := 3) hx hb dL_law_1669 (by decide) ?_
  refine lv_iadd hx hb dL_law_1670 ?_
  refine lv_topi (fun y_16 ey_16 => ?_)
  obtain rfl : y_16 = 3 := ey_16.trans (by decide)
  refine va_sld hx hb hX hbl hbA hS (by unfold vp_in; decide) dL_law_1671 ?_
  obtain ⟨z_17, ez_17⟩ : ∃ z : Int64, z = Int32.toInt64 (xs (Int32.toNatClampNeg 3)) := ⟨_, rfl⟩
  refine lv_i2l (v := z_17) hx hb dL_law_1672 ez_17.symm ?_
  refine lv_ldc2 (v := 4294967295) hx hb hown (hts (.constantLong RL 62 (4294967295)) tw_1577) dL_law_1673 ?_
  refine lv_land hx hb dL_law_1676 ?_
  refine lv_topl (fun z_18 ez_18 => ?_)
  refine lv_lor hx hb dL_law_1677 ?_
  refine lv_topl (fun z_19 ez_19 => ?_)
  refine lv_aload_n hx hb dL_law_1678 rfl (lv_at hl 4 rfl) ?_
  refine lv_iload hx hb dL_law_1679 (lv_at hl 0 rfl) ?_
  refine lv_iconst (v := 4) hx hb dL_law_1681 (by decide) ?_
  refine lv_iadd hx hb dL_law_1682 ?_
  refine lv_topi (fun y_20 ey_20 => ?_)
  obtain rfl : y_20 = 4 := ey_20.trans (by decide)
  refine va_sld hx hb hX hbl hbA hS (by unfold vp_in; decide) dL_law_1683 ?_
  refine lv_aload_n hx hb dL_law_1684 rfl (lv_at hl 4 rfl) ?_
  refine lv_iload hx hb dL_law_1685 (lv_at hl 0 rfl) ?_
  refine lv_iconst (v := 5) hx hb dL_law_1687 (by decide) ?_
  refine lv_iadd hx hb dL_law_1688 ?_
  refine lv_topi (fun y_21 ey_21 => ?_)
  obtain rfl : y_21 = 5 := ey_21.trans (by decide)
  refine va_sld hx hb hX hbl hbA hS (by unfold vp_in; decide) dL_law_1689 ?_
  have hPc := hP.sub (ws' := [(g0, .inr (10, [.int 0, .ref b1, .ref b2, .ref b3, .ref b4, .ref b1, .int 0, .int 0, .int 0, .int 0, .int 0, .int 0, .int 0, .int 0, .int 0, .int 0, .ref (ad 5), .ref (ad 7), .int 0, .ref b19, .ref b20, .ref b21, .ref b22, .ref b23, .ref b24, .ref b25, .int 0, .int 0, .ref b28, .ref b29, .ref b30, .ref b31, .ref b32, .ref b33, .ref b34, .ref b35, .ref b36, .int 0, .int 0, .long 0, .ref b40, .ref b41, .ref b42, .ref b43, .ref b44, .int 0, .ref b46, .ref b47, .ref b48, .ref b49, .ref b50, .int 0]))]) [15] rfl
  have hKc := hK.sub (tys' := []) [] rfl
  have hDc := hD.sub (ws' := [(g0, .inr (10, [.int 0, .ref b1, .ref b2, .ref b3, .ref b4, .ref b1, .int 0, .int 0, .int 0, .int 0, .int 0, .int 0, .int 0, .int 0, .int 0, .int 0, .ref (ad 5), .ref (ad 7), .int 0, .ref b19, .ref b20, .ref b21, .ref b22, .ref b23, .ref b24, .ref b25, .int 0, .int 0, .ref b28, .ref b29, .ref b30, .ref b31, .ref b32, .ref b33, .ref b34, .ref b35, .ref b36, .int 0, .int 0, .long 0, .ref b40, .ref b41, .ref b42, .ref b43, .ref b44, .int 0, .ref b46, .ref b47, .ref b48, .ref b49, .ref b50, .int 0]))]) [15] (by decide) rfl
  have hFc := va_free (wc := [(g0, .inr (10, [.int 0, .ref b1, .ref b2, .ref b3, .ref b4, .ref b1, .int 0, .int 0, .int 0, .int 0, .int 0, .int 0, .int 0, .int 0, .int 0, .int 0, .ref (ad 5), .ref (ad 7), .int 0, .ref b19, .ref b20, .ref b21, .ref b22, .ref b23, .ref b24, .ref b25, .int 0, .int 0, .ref b28, .ref b29, .ref b30, .ref b31, .ref b32, .ref b33, .ref b34, .ref b35, .ref b36, .int 0, .int 0, .long 0, .ref b40, .ref b41, .ref b42, .ref b43, .ref b44, .int 0, .ref b46, .ref b47, .ref b48, .ref b49, .ref b50, .int 0]))]) hD hS hA [15] rfl
  refine va_calli (va_runV (As := [.int (xs (Int32.toNatClampNeg 1)), .long z_19, .int (xs (Int32.toNatClampNeg 4)), .int (xs (Int32.toNatClampNeg 5))]) (rest := [.int (-1)]) ⟨hx, hb, hml, hown, hts⟩ (c_help10 l dC dI g0 (.int 0 : Value) (.ref b1 : Value) (.ref b2 : Value) (.ref b3 : Value) (.ref b4 : Value) (.ref b1 : Value) (.int 0 : Value) (.int 0 : Value) (.int 0 : Value) (.int 0 : Value) (.int 0 : Value) (.int 0 : Value) (.int 0 : Value) (.int 0 : Value) (.int 0 : Value) (.ref (ad 5) : Value) (.ref (ad 7) : Value) (.int 0 : Value) (.ref b19 : Value) (.ref b20 : Value) (.ref b21 : Value) (.ref b22 : Value) (.ref b23 : Value) (.ref b24 : Value) (.ref b25 : Value) (.int 0 : Value) (.int 0 : Value) (.ref b28 : Value) (.ref b29 : Value) (.ref b30 : Value) (.ref b31 : Value) (.ref b32 : Value) (.ref b33 : Value) (.ref b34 : Value) (.ref b35 : Value) (.ref b36 : Value) (.int 0 : Value) (.int 0 : Value) (.long 0 : Value) (.ref b40 : Value) (.ref b41 : Value) (.ref b42 : Value) (.ref b43 : Value) (.ref b44 : Value) (.int 0 : Value) (.ref b46 : Value) (.ref b47 : Value) (.ref b48 : Value) (.ref b49 : Value) (.ref b50 : Value) (.int 0 : Value) (xs (Int32.toNatClampNeg 1)) z_19 (xs (Int32.toNatClampNeg 4)) (xs (Int32.toNatClampNeg 5)) H.size) (cwV 4 hts (kG (List.forall_mem_cons.mpr ⟨tw_1545, (List.forall_mem_cons.mpr ⟨tw_1546, (List.forall_mem_cons.mpr ⟨tw_1547, (List.forall_mem_cons.mpr ⟨tw_85, (fun _ h => absurd h List.not_mem_nil)⟩)⟩)⟩)⟩) (by decide +kernel) in_w_c_help10 gw_c_help10) rfl rfl rfl (by decide +kernel) ⟨(Nat.le_of_ble_eq_true rfl), (Nat.le_of_ble_eq_true rfl)⟩) (kW_V kT_blind kT_give (va_recv hKc hPc (ci := 10) (q0 := 0) rfl rfl) hPc hKc hDc) rfl rfl hl.1 rfl (lv_room (Nat.le_of_ble_eq_true rfl)) dL_law_1690 ⟨(Nat.le_of_ble_eq_true rfl), (Nat.le_of_ble_eq_true rfl)⟩) hS (fun q _ h => hFc q h) hFc (fun r_22 u t H1 locs ht hvm hw hB hz1 hk1 hS => ?_)
  have hP1 : va_P (dC, dI) vwCl [] H1 := fun k q h => by simp at h
  have hD1 : va_D (va_A [(g0, .inr (10, [.int 0, .ref b1, .ref b2, .ref b3, .ref b4, .ref b1, .int 0, .int 0, .int 0, .int 0, .int 0, .int 0, .int 0, .int 0, .int 0, .int 0, .ref (ad 5), .ref (ad 7), .int 0, .ref b19, .ref b20, .ref b21, .ref b22, .ref b23, .ref b24, .ref b25, .int 0, .int 0, .ref b28, .ref b29, .ref b30, .ref b31, .ref b32, .ref b33, .ref b34, .ref b35, .ref b36, .int 0, .int 0, .long 0, .ref b40, .ref b41, .ref b42, .ref b43, .ref b44, .int 0, .ref b46, .ref b47, .ref b48, .ref b49, .ref b50, .int 0]))] H.size) [] := ⟨fun i j p q h => by simp at h, fun k q h => by simp at h⟩
  try dsimp only at hw
  obtain ⟨hP, hD⟩ := va_join (wr := [(h0, .inr (9, [.ref jT, .ref jR, .ref e2, .ref jL, .ref jU, .ref jF, .ref e6, .ref jN, .ref jA, .ref e9])), (jT, .inr (8, [.ref t0, .int 0])), (t0, .inl (cC, 120, .inl (fun _ => 0))), (jR, .inr (4, [.ref jT, .ref r1, .ref r2, .int 0, .int 0, .int 0, .ref (ad 0), .ref (ad 0)])), (jL, .inr (7, [.ref l0, .int 0])), (l0, .inl (cL, 6, .inr (.inr (.inr (.inr (fun _ => none)))))), (jU, .inr (7, [.ref m0, .int 0])), (m0, .inl (cM, 8, .inr (.inr (.inr (.inr (fun _ => none)))))), (jF, .inr (2, [.ref f0, .ref f1, .ref f2, .ref f3, .ref f4, .int 0, .int 0, .int 0])), (f0, .inl (z0, 10, .inl (fun _ => 0))), (f1, .inl (z1, 10, .inl (fun _ => 0))), (f2, .inl (z2, 10, .inl (fun _ => 0))), (f4, .inl (z4, 4, .inl (fun _ => 0))), (jN, .inr (3, [.ref n0, .ref n1, .ref n2, .ref n3, .ref n4, .int 0])), (jA, .inr (0, [.ref a0, .ref a1, .ref a2, .ref a3, .int 0])), (b1, .inl (y1, 120, .inl (fun _ => 0))), (b19, .inl (y19, 10, .inl (fun _ => 0))), (b20, .inl (y20, 10, .inl (fun _ => 0))), (b21, .inl (y21, 10, .inl (fun _ => 0))), (b22, .inl (y22, 10, .inl (fun _ => 0))), (b23, .inl (y23, 10, .inl (fun _ => 0))), (b24, .inl (y24, 4, .inl (fun _ => 0))), (b25, .inl (y25, 10, .inl (fun _ => 0))), (o0, .inl (cO, 1, .inr (.inl (fun _ => 0))))]) (w1 := []) hP hD [15] [0, 1, 2, 3, 4, 5, 6, 7, 8, 9, 10, 11, 12, 13, 14, 16, 17, 18, 19, 20, 21, 22, 23, 24] rfl rfl (by decide) (by decide) hk1 hFc hP1 hD1
  generalize H1 = H at hP hS ⊢
  have hP : va_P (dC, dI) vwCl [(h0, .inr (9, [.ref jT, .ref jR, .ref e2, .ref jL, .ref jU, .ref jF, .ref e6, .ref jN, .ref jA, .ref e9])), (jT, .inr (8, [.ref t0, .int 0])), (t0, .inl (cC, 120, .inl (fun _ => 0))), (jR, .inr (4, [.ref jT, .ref r1, .ref r2, .int 0, .int 0, .int 0, .ref (ad 0), .ref (ad 0)])), (jL, .inr (7, [.ref l0, .int 0])), (l0, .inl (cL, 6, .inr (.inr (.inr (.inr (fun _ => none)))))), (jU, .inr (7, [.ref m0, .int 0])), (m0, .inl (cM, 8, .inr (.inr (.inr (.inr (fun _ => none)))))), (jF, .inr (2, [.ref f0, .ref f1, .ref f2, .ref f3, .ref f4, .int 0, .int 0, .int 0])), (f0, .inl (z0, 10, .inl (fun _ => 0))), (f1, .inl (z1, 10, .inl (fun _ => 0))), (f2, .inl (z2, 10, .inl (fun _ => 0))), (f4, .inl (z4, 4, .inl (fun _ => 0))), (jN, .inr (3, [.ref n0, .ref n1, .ref n2, .ref n3, .ref n4, .int 0])), (jA, .inr (0, [.ref a0, .ref a1, .ref a2, .ref a3, .int 0])), (b1, .inl (y1, 120, .inl (fun _ => 0))), (b19, .inl (y19, 10, .inl (fun _ => 0))), (b20, .inl (y20, 10, .inl (fun _ => 0))), (b21, .inl (y21, 10, .inl (fun _ => 0))), (b22, .inl (y22, 10, .inl (fun _ => 0))), (b23, .inl (y23, 10, .inl (fun _ => 0))), (b24, .inl (y24, 4, .inl (fun _ => 0))), (b25, .inl (y25, 10, .inl (fun _ => 0))), (o0, .inl (cO, 1, .inr (.inl (fun _ => 0))))] H := hP
  have hD : va_D (fun q : Nat => s.heap.size ≤ q) [(h0, .inr (9, [.ref jT, .ref jR, .ref e2, .ref jL, .ref jU, .ref jF, .ref e6, .ref jN, .ref jA, .ref e9])), (jT, .inr (8, [.ref t0, .int 0])), (t0, .inl (cC, 120, .inl (fun _ => 0))), (jR, .inr (4, [.ref jT, .ref r1, .ref r2, .int 0, .int 0, .int 0, .ref (ad 0), .ref (ad 0)])), (jL, .inr (7, [.ref l0, .int 0])), (l0, .inl (cL, 6, .inr (.inr (.inr (.inr (fun _ => none)))))), (jU, .inr (7, [.ref m0, .int 0])), (m0, .inl (cM, 8, .inr (.inr (.inr (.inr (fun _ => none)))))), (jF, .inr (2, [.ref f0, .ref f1, .ref f2, .ref f3, .ref f4, .int 0, .int 0, .int 0])), (f0, .inl (z0, 10, .inl (fun _ => 0))), (f1, .inl (z1, 10, .inl (fun _ => 0))), (f2, .inl (z2, 10, .inl (fun _ => 0))), (f4, .inl (z4, 4, .inl (fun _ => 0))), (jN, .inr (3, [.ref n0, .ref n1, .ref n2, .ref n3, .ref n4, .int 0])), (jA, .inr (0, [.ref a0, .ref a1, .ref a2, .ref a3, .int 0])), (b1, .inl (y1, 120, .inl (fun _ => 0))), (b19, .inl (y19, 10, .inl (fun _ => 0))), (b20, .inl (y20, 10, .inl (fun _ => 0))), (b21, .inl (y21, 10, .inl (fun _ => 0))), (b22, .inl (y22, 10, .inl (fun _ => 0))), (b23, .inl (y23, 10, .inl (fun _ => 0))), (b24, .inl (y24, 4, .inl (fun _ => 0))), (b25, .inl (y25, 10, .inl (fun _ => 0))), (o0, .inl (cO, 1, .inr (.inl (fun _ => 0))))] := hD
  obtain rfl : r_22 = (-1) := hw
  refine lv_icmp_eq (tgt := 1792) hx hb dL_law_1693 (by decide) (fun c_23 => ?_) (fun c_23 => absurd (by decide) c_23)
  exact law_tail C0 hS (Nat.le_of_ble_eq_true rfl) (Nat.le_of_ble_eq_true rfl) (lv_sub hl [0, 1, 2, 3, 4] rfl)

theorem dL_law_1698 : decode cL_law 1698 = .ok (.aload_n 1, 1) := by decide +kernel
theorem dL_law_1699 : decode cL_law 1699 = .ok (.aload_n 0, 1) := by decide +kernel
theorem dL_law_1700 : decode cL_law 1700 = .ok (.iload 4, 2) := by decide +kernel
theorem dL_law_1702 : decode cL_law 1702 = .ok (.iconst 1, 1) := by decide +kernel
theorem dL_law_1703 : decode cL_law 1703 = .ok (.iadd, 1) := by decide +kernel
theorem dL_law_1704 : decode cL_law 1704 = .ok (.iaload, 1) := by decide +kernel
theorem dL_law_1705 : decode cL_law 1705 = .ok (.aload_n 0, 1) := by decide +kernel
theorem dL_law_1706 : decode cL_law 1706 = .ok (.iload 4, 2) := by decide +kernel
theorem dL_law_1708 : decode cL_law 1708 = .ok (.iconst 2, 1) := by decide +kernel
theorem dL_law_1709 : decode cL_law 1709 = .ok (.iadd, 1) := by decide +kernel
theorem dL_law_1710 : decode cL_law 1710 = .ok (.iaload, 1) := by decide +kernel
theorem dL_law_1711 : decode cL_law 1711 = .ok (.i2l, 1) := by decide +kernel
theorem dL_law_1712 : decode cL_law 1712 = .ok (.bipush 32, 2) := by decide +kernel
theorem dL_law_1714 : decode cL_law 1714 = .ok (.lshl, 1) := by decide +kernel
theorem dL_law_1715 : decode cL_law 1715 = .ok (.aload_n 0, 1) := by decide +kernel
theorem dL_law_1716 : decode cL_law 1716 = .ok (.iload 4, 2) := by decide +kernel
theorem dL_law_1718 : decode cL_law 1718 = .ok (.iconst 3, 1) := by decide +kernel
theorem dL_law_1719 : decode cL_law 1719 = .ok (.iadd, 1) := by decide +kernel
theorem dL_law_1720 : decode cL_law 1720 = .ok (.iaload, 1) := by decide +kernel
theorem dL_law_1721 : decode cL_law 1721 = .ok (.i2l, 1) := by decide +kernel
theorem dL_law_1722 : decode cL_law 1722 = .ok (.ldc2_w 62, 3) := by decide +kernel
theorem dL_law_1725 : decode cL_law 1725 = .ok (.land, 1) := by decide +kernel
theorem dL_law_1726 : decode cL_law 1726 = .ok (.lor, 1) := by decide +kernel
theorem dL_law_1727 : decode cL_law 1727 = .ok (.invokevirtual 135, 3) := by decide +kernel
theorem dL_law_1730 : decode cL_law 1730 = .ok (.aload_n 2, 1) := by decide +kernel
theorem dL_law_1731 : decode cL_law 1731 = .ok (.aload_n 0, 1) := by decide +kernel
theorem dL_law_1732 : decode cL_law 1732 = .ok (.iload 4, 2) := by decide +kernel
theorem dL_law_1734 : decode cL_law 1734 = .ok (.iconst 1, 1) := by decide +kernel
theorem dL_law_1735 : decode cL_law 1735 = .ok (.iadd, 1) := by decide +kernel
theorem dL_law_1736 : decode cL_law 1736 = .ok (.iaload, 1) := by decide +kernel
theorem dL_law_1737 : decode cL_law 1737 = .ok (.aload_n 0, 1) := by decide +kernel
theorem dL_law_1738 : decode cL_law 1738 = .ok (.iload 4, 2) := by decide +kernel
theorem dL_law_1740 : decode cL_law 1740 = .ok (.iconst 2, 1) := by decide +kernel
theorem dL_law_1741 : decode cL_law 1741 = .ok (.iadd, 1) := by decide +kernel
theorem dL_law_1742 : decode cL_law 1742 = .ok (.iaload, 1) := by decide +kernel
theorem dL_law_1743 : decode cL_law 1743 = .ok (.i2l, 1) := by decide +kernel
theorem dL_law_1744 : decode cL_law 1744 = .ok (.bipush 32, 2) := by decide +kernel
theorem dL_law_1746 : decode cL_law 1746 = .ok (.lshl, 1) := by decide +kernel
theorem dL_law_1747 : decode cL_law 1747 = .ok (.aload_n 0, 1) := by decide +kernel
theorem dL_law_1748 : decode cL_law 1748 = .ok (.iload 4, 2) := by decide +kernel
theorem dL_law_1750 : decode cL_law 1750 = .ok (.iconst 3, 1) := by decide +kernel
theorem dL_law_1751 : decode cL_law 1751 = .ok (.iadd, 1) := by decide +kernel
theorem dL_law_1752 : decode cL_law 1752 = .ok (.iaload, 1) := by decide +kernel
theorem dL_law_1753 : decode cL_law 1753 = .ok (.i2l, 1) := by decide +kernel
theorem dL_law_1754 : decode cL_law 1754 = .ok (.ldc2_w 62, 3) := by decide +kernel
theorem dL_law_1757 : decode cL_law 1757 = .ok (.land, 1) := by decide +kernel
theorem dL_law_1758 : decode cL_law 1758 = .ok (.lor, 1) := by decide +kernel
theorem dL_law_1759 : decode cL_law 1759 = .ok (.invokevirtual 139, 3) := by decide +kernel
theorem dL_law_1762 : decode cL_law 1762 = .ok (.if_icmp .eq 30, 3) := by decide +kernel
set_option maxHeartbeats 4000000 in
set_option maxRecDepth 100000 in
theorem law_24 {p : Program} {l : Launch} {e : Env} {s : State} {m : MethodId} {below : List Frame} {meth : Method} {c : Code} {b : Nat} {xs : Nat → Int32} {dC : Nat → ClassId} {dI : Nat → Nat → Nat} {ad : Nat → Nat} {h0 : Nat} {g0 : Nat} {o0 : Nat} {jT : Nat} {jR : Nat} {e2 : Nat} {jL : Nat} {jU : Nat} {jF : Nat} {e6 : Nat} {jN : Nat} {jA : Nat} {e9 : Nat} {t0 : Nat} {r1 : Nat} {r2 : Nat} {l0 : Nat} {m0 : Nat} {f0 : Nat} {f1 : Nat} {f2 : Nat} {f3 : Nat} {f4 : Nat} {n0 : Nat} {n1 : Nat} {n2 : Nat} {n3 : Nat} {n4 : Nat} {a0 : Nat} {a1 : Nat} {a2 : Nat} {a3 : Nat} {cC : ClassId} {cL : ClassId} {cM : ClassId} {z0 : ClassId} {z1 : ClassId} {z2 : ClassId} {z4 : ClassId} {b1 : Nat} {b2 : Nat} {b3 : Nat} {b4 : Nat} {b19 : Nat} {b20 : Nat} {b21 : Nat} {b22 : Nat} {b23 : Nat} {b24 : Nat} {b25 : Nat} {b28 : Nat} {b29 : Nat} {b30 : Nat} {b31 : Nat} {b32 : Nat} {b33 : Nat} {b34 : Nat} {b35 : Nat} {b36 : Nat} {b40 : Nat} {b41 : Nat} {b42 : Nat} {b43 : Nat} {b44 : Nat} {b46 : Nat} {b47 : Nat} {b48 : Nat} {b49 : Nat} {b50 : Nat} {y1 : ClassId} {y19 : ClassId} {y20 : ClassId} {y21 : ClassId} {y22 : ClassId} {y23 : ClassId} {y24 : ClassId} {y25 : ClassId} {cO : ClassId} (C0 : lw_At p s m meth c b 7 xs) (hXX : kLaw ad s) {H : Heap} {locs : List Loc} (hK : va_K (dC, dI) vwCl [(cC, .char), (cL, .object RX6), (cM, .object RX6), (z0, .int), (z1, .int), (z2, .int), (z4, .int), (y1, .byte), (y19, .int), (y20, .int), (y21, .int), (y22, .int), (y23, .int), (y24, .int), (y25, .boolean), (cO, .long)] s) (hP : va_P (dC, dI) vwCl [(h0, .inr (9, [.ref jT, .ref jR, .ref e2, .ref jL, .ref jU, .ref jF, .ref e6, .ref jN, .ref jA, .ref e9])), (jT, .inr (8, [.ref t0, .int 0])), (t0, .inl (cC, 120, .inl (fun _ => 0))), (jR, .inr (4, [.ref jT, .ref r1, .ref r2, .int 0, .int 0, .int 0, .ref (ad 0), .ref (ad 0)])), (jL, .inr (7, [.ref l0, .int 0])), (l0, .inl (cL, 6, .inr (.inr (.inr (.inr (fun _ => none)))))), (jU, .inr (7, [.ref m0, .int 0])), (m0, .inl (cM, 8, .inr (.inr (.inr (.inr (fun _ => none)))))), (jF, .inr (2, [.ref f0, .ref f1, .ref f2, .ref f3, .ref f4, .int 0, .int 0, .int 0])), (f0, .inl (z0, 10, .inl (fun _ => 0))), (f1, .inl (z1, 10, .inl (fun _ => 0))), (f2, .inl (z2, 10, .inl (fun _ => 0))), (f4, .inl (z4, 4, .inl (fun _ => 0))), (jN, .inr (3, [.ref n0, .ref n1, .ref n2, .ref n3, .ref n4, .int 0])), (jA, .inr (0, [.ref a0, .ref a1, .ref a2, .ref a3, .int 0])), (g0, .inr (10, [.int 0, .ref b1, .ref b2, .ref b3, .ref b4, .ref b1, .int 0, .int 0, .int 0, .int 0, .int 0, .int 0, .int 0, .int 0, .int 0, .int 0, .ref (ad 5), .ref (ad 7), .int 0, .ref b19, .ref b20, .ref b21, .ref b22, .ref b23, .ref b24, .ref b25, .int 0, .int 0, .ref b28, .ref b29, .ref b30, .ref b31, .ref b32, .ref b33, .ref b34, .ref b35, .ref b36, .int 0, .int 0, .long 0, .ref b40, .ref b41, .ref b42, .ref b43, .ref b44, .int 0, .ref b46, .ref b47, .ref b48, .ref b49, .ref b50, .int 0])), (b1, .inl (y1, 120, .inl (fun _ => 0))), (b19, .inl (y19, 10, .inl (fun _ => 0))), (b20, .inl (y20, 10, .inl (fun _ => 0))), (b21, .inl (y21, 10, .inl (fun _ => 0))), (b22, .inl (y22, 10, .inl (fun _ => 0))), (b23, .inl (y23, 10, .inl (fun _ => 0))), (b24, .inl (y24, 4, .inl (fun _ => 0))), (b25, .inl (y25, 10, .inl (fun _ => 0))), (o0, .inl (cO, 1, .inr (.inl (fun _ => 0))))] H) (hD : va_D (fun q : Nat => s.heap.size ≤ q) [(h0, .inr (9, [.ref jT, .ref jR, .ref e2, .ref jL, .ref jU, .ref jF, .ref e6, .ref jN, .ref jA, .ref e9])), (jT, .inr (8, [.ref t0, .int 0])), (t0, .inl (cC, 120, .inl (fun _ => 0))), (jR, .inr (4, [.ref jT, .ref r1, .ref r2, .int 0, .int 0, .int 0, .ref (ad 0), .ref (ad 0)])), (jL, .inr (7, [.ref l0, .int 0])), (l0, .inl (cL, 6, .inr (.inr (.inr (.inr (fun _ => none)))))), (jU, .inr (7, [.ref m0, .int 0])), (m0, .inl (cM, 8, .inr (.inr (.inr (.inr (fun _ => none)))))), (jF, .inr (2, [.ref f0, .ref f1, .ref f2, .ref f3, .ref f4, .int 0, .int 0, .int 0])), (f0, .inl (z0, 10, .inl (fun _ => 0))), (f1, .inl (z1, 10, .inl (fun _ => 0))), (f2, .inl (z2, 10, .inl (fun _ => 0))), (f4, .inl (z4, 4, .inl (fun _ => 0))), (jN, .inr (3, [.ref n0, .ref n1, .ref n2, .ref n3, .ref n4, .int 0])), (jA, .inr (0, [.ref a0, .ref a1, .ref a2, .ref a3, .int 0])), (g0, .inr (10, [.int 0, .ref b1, .ref b2, .ref b3, .ref b4, .ref b1, .int 0, .int 0, .int 0, .int 0, .int 0, .int 0, .int 0, .int 0, .int 0, .int 0, .ref (ad 5), .ref (ad 7), .int 0, .ref b19, .ref b20, .ref b21, .ref b22, .ref b23, .ref b24, .ref b25, .int 0, .int 0, .ref b28, .ref b29, .ref b30, .ref b31, .ref b32, .ref b33, .ref b34, .ref b35, .ref b36, .int 0, .int 0, .long 0, .ref b40, .ref b41, .ref b42, .ref b43, .ref b44, .int 0, .ref b46, .ref b47, .ref b48, .ref b49, .ref b50, .int 0])), (b1, .inl (y1, 120, .inl (fun _ => 0))), (b19, .inl (y19, 10, .inl (fun _ => 0))), (b20, .inl (y20, 10, .inl (fun _ => 0))), (b21, .inl (y21, 10, .inl (fun _ => 0))), (b22, .inl (y22, 10, .inl (fun _ => 0))), (b23, .inl (y23, 10, .inl (fun _ => 0))), (b24, .inl (y24, 4, .inl (fun _ => 0))), (b25, .inl (y25, 10, .inl (fun _ => 0))), (o0, .inl (cO, 1, .inr (.inl (fun _ => 0))))]) (hS : va_S (fun q : Nat => s.heap.size ≤ q) s.heap H locs) {ls : Array Slot} (hl : lv_has ls 7 [(4, .int 0), (3, .ref o0), (2, .ref g0), (1, .ref h0), (0, .ref b)]) (hlt : l.stackTraces = false) : W p l e room_1 s m #[Value.ref b] below meth c H locs 76 3048 (lw_Z below #[Value.ref b] s) (F0 m 1698 ls []) := by
  obtain ⟨hx, hb, hr, hml, hown, hts, hX, hbl, hlocks, hgv⟩ := id C0
  have hown : s.vm.findClass RL = some m.cls := hown
  have hA : ∀ q : Nat, s.heap.size ≤ q → (fun q : Nat => s.heap.size ≤ q) q := fun _ h => h
  have hbA : ¬ (fun q : Nat => s.heap.size ≤ q) b := Nat.not_le.mpr hbl
  refine lv_aload_n hx hb dL_law_1698 rfl (lv_at hl 3 rfl) ?_
  refine lv_aload_n hx hb dL_law_1699 rfl (lv_at hl 4 rfl) ?_
  refine lv_iload hx hb dL_law_1700 (lv_at hl 0 rfl) ?_
  refine lv_iconst (v := 1) hx hb dL_law_1702 (by decide) ?_
  refine lv_iadd hx hb dL_law_1703 ?_
  refine lv_topi (fun y_1 ey_1 => ?_)
  obtain rfl : y_1 = 1 := ey_1.trans (by decide)
  refine va_sld hx hb hX hbl hbA hS (by unfold vp_in; decide) dL_law_1704 ?_
  refine lv_aload_n hx hb dL_law_1705 rfl (lv_at hl 4 rfl) ?_
  refine lv_iload hx hb dL_law_1706 (lv_at hl 0 rfl) ?_
  refine lv_iconst (v := 2) hx hb dL_law_1708 (by decide) ?_
  refine lv_iadd hx hb dL_law_1709 ?_
  refine lv_topi (fun y_2 ey_2 => ?_)
  obtain rfl : y_2 = 2 := ey_2.trans (by decide)
  refine va_sld hx hb hX hbl hbA hS (by unfold vp_in; decide) dL_law_1710 ?_
  obtain ⟨z_3, ez_3⟩ : ∃ z : Int64, z = Int32.toInt64 (xs (Int32.toNatClampNeg 2)) := ⟨_, rfl⟩
  refine lv_i2l (v := z_3) hx hb dL_law_1711 ez_3.symm ?_
  refine lv_bipush (v := 32) hx hb dL_law_1712 (by decide) ?_
  refine lv_lshl (v := z_3 <<< (Int32.toInt64 32 &&& 63)) hx hb dL_law_1714 rfl ?_
  refine lv_topl (fun z_4 ez_4 => ?_)
  refine lv_aload_n hx hb dL_law_1715 rfl (lv_at hl 4 rfl) ?_
  refine lv_iload hx hb dL_law_1716 (lv_at hl 0 rfl) ?_
  refine lv_iconst (v := 3) hx hb dL_law_1718 (by decide) ?_
  refine lv_iadd hx hb dL_law_1719 ?_
  refine lv_topi (fun y_5 ey_5 => ?_)
  obtain rfl : y_5 = 3 := ey_5.trans (by decide)
  refine va_sld hx hb hX hbl hbA hS (by unfold vp_in; decide) dL_law_1720 ?_
  obtain ⟨z_6, ez_6⟩ : ∃ z : Int64, z = Int32.toInt64 (xs (Int32.toNatClampNeg 3)) := ⟨_, rfl⟩
  refine lv_i2l (v := z_6) hx hb dL_law_1721 ez_6.symm ?_
  refine lv_ldc2 (v := 4294967295) hx hb hown (hts (.constantLong RL 62 (4294967295)) tw_1577) dL_law_1722 ?_
  refine lv_land hx hb dL_law_1725 ?_
  refine lv_topl (fun z_7 ez_7 => ?_)
  refine lv_lor hx hb dL_law_1726 ?_
  refine lv_topl (fun z_8 ez_8 => ?_)
  have hPc := hP.sub (ws' := [(h0, .inr (9, [.ref jT, .ref jR, .ref e2, .ref jL, .ref jU, .ref jF, .ref e6, .ref jN, .ref jA, .ref e9])), (jL, .inr (7, [.ref l0, .int 0]))]) [0, 4] rfl
  have hKc := hK.sub (tys' := []) [] rfl
  refine vp_callSi (va_runV (As := [.int (xs (Int32.toNatClampNeg 1)), .long z_8]) (rest := []) ⟨hx, hb, hml, hown, hts⟩ (c_lookers9 l dC dI h0 jL (.ref jT : Value) (.ref jR : Value) (.ref e2 : Value) (.ref jU : Value) (.ref jF : Value) (.ref e6 : Value) (.ref jN : Value) (.ref jA : Value) (.ref e9 : Value) (.ref l0 : Value) (xs (Int32.toNatClampNeg 1)) z_8) (cwV 2 hts (kG (List.forall_mem_cons.mpr ⟨tw_969, (List.forall_mem_cons.mpr ⟨tw_970, (List.forall_mem_cons.mpr ⟨tw_971, (List.forall_mem_cons.mpr ⟨tw_75, (fun _ h => absurd h List.not_mem_nil)⟩)⟩)⟩)⟩) (by decide +kernel) in_w_c_lookers9 gw_c_lookers9) rfl rfl rfl (by decide +kernel) ⟨(Nat.le_of_ble_eq_true rfl), (Nat.le_of_ble_eq_true rfl)⟩) (kR_V kT_blind kT_give (va_recv hKc hPc (ci := 9) (q0 := 0) rfl rfl) hPc hKc) rfl rfl hl.1 rfl (lv_room (Nat.le_of_ble_eq_true rfl)) dL_law_1727 ⟨(Nat.le_of_ble_eq_true rfl), (Nat.le_of_ble_eq_true rfl)⟩).run (fun r_9 hw => ?_)
  obtain rfl : r_9 = (-1) := hw
  refine lv_aload_n hx hb dL_law_1730 rfl (lv_at hl 2 rfl) ?_
  refine lv_aload_n hx hb dL_law_1731 rfl (lv_at hl 4 rfl) ?_
  refine lv_iload hx hb dL_law_1732 (lv_at hl 0 rfl) ?_
  refine lv_iconst (v := 1) hx hb dL_law_1734 (by decide) ?_
  refine lv_iadd hx hb dL_law_1735 ?_
  refine lv_topi (fun y_10 ey_10 => ?_)
  obtain rfl : y_10 = 1 := ey_10.trans (by decide)
  refine va_sld hx hb hX hbl hbA hS (by unfold vp_in; decide) dL_law_1736 ?_
  refine lv_aload_n hx hb dL_law_1737 rfl (lv_at hl 4 rfl) ?_
  refine lv_iload hx hb dL_law_1738 (lv_at hl 0 rfl) ?_
  refine lv_iconst (v := 2) hx hb dL_law_1740 (by decide) ?_
  refine lv_iadd hx hb dL_law_1741 ?_
  refine lv_topi (fun y_11 ey_11 => ?_)
  obtain rfl : y_11 = 2 := ey_11.trans (by decide)
  refine va_sld hx hb hX hbl hbA hS (by unfold vp_in; decide) dL_law_1742 ?_
  obtain ⟨z_12, ez_12⟩ : ∃ z : Int64, z = Int32.toInt64 (xs (Int32.toNatClampNeg 2)) := ⟨_, rfl⟩
  refine lv_i2l (v := z_12) hx hb dL_law_1743 ez_12.symm ?_
  refine lv_bipush (v := 32) hx hb dL_law_1744 (by decide) ?_
  refine lv_lshl (v := z_12 <<< (Int32.toInt64 32 &&& 63)) hx hb dL_law_1746 rfl ?_
  refine lv_topl (fun z_13 ez_13 => ?_)
  refine lv_aload_n hx hb dL_law_1747 rfl (lv_at hl 4 rfl) ?_
  refine lv_iload hx hb dL_law_1748 (lv_at hl 0 rfl) ?_
  refine lv_iconst (v := 3) hx hb dL_law_1750 (by decide) ?_
  refine lv_iadd hx hb dL_law_1751 ?_
  refine lv_topi (fun y_14 ey_14 => ?_)
  obtain rfl : y_14 = 3 := ey_14.trans (by decide)
  refine va_sld hx hb hX hbl hbA hS (by unfold vp_in; decide) dL_law_1752 ?_
  obtain ⟨z_15, ez_15⟩ : ∃ z : Int64, z = Int32.toInt64 (xs (Int32.toNatClampNeg 3)) := ⟨_, rfl⟩
  refine lv_i2l (v := z_15) hx hb dL_law_1753 ez_15.symm ?_
  refine lv_ldc2 (v := 4294967295) hx hb hown (hts (.constantLong RL 62 (4294967295)) tw_1577) dL_law_1754 ?_
  refine lv_land hx hb dL_law_1757 ?_
  refine lv_topl (fun z_16 ez_16 => ?_)
  refine lv_lor hx hb dL_law_1758 ?_
  refine lv_topl (fun z_17 ez_17 => ?_)
  have hPc := hP.sub (ws' := [(g0, .inr (10, [.int 0, .ref b1, .ref b2, .ref b3, .ref b4, .ref b1, .int 0, .int 0, .int 0, .int 0, .int 0, .int 0, .int 0, .int 0, .int 0, .int 0, .ref (ad 5), .ref (ad 7), .int 0, .ref b19, .ref b20, .ref b21, .ref b22, .ref b23, .ref b24, .ref b25, .int 0, .int 0, .ref b28, .ref b29, .ref b30, .ref b31, .ref b32, .ref b33, .ref b34, .ref b35, .ref b36, .int 0, .int 0, .long 0, .ref b40, .ref b41, .ref b42, .ref b43, .ref b44, .int 0, .ref b46, .ref b47, .ref b48, .ref b49, .ref b50, .int 0]))]) [15] rfl
  have hKc := hK.sub (tys' := []) [] rfl
  have hDc := hD.sub (ws' := [(g0, .inr (10, [.int 0, .ref b1, .ref b2, .ref b3, .ref b4, .ref b1, .int 0, .int 0, .int 0, .int 0, .int 0, .int 0, .int 0, .int 0, .int 0, .int 0, .ref (ad 5), .ref (ad 7), .int 0, .ref b19, .ref b20, .ref b21, .ref b22, .ref b23, .ref b24, .ref b25, .int 0, .int 0, .ref b28, .ref b29, .ref b30, .ref b31, .ref b32, .ref b33, .ref b34, .ref b35, .ref b36, .int 0, .int 0, .long 0, .ref b40, .ref b41, .ref b42, .ref b43, .ref b44, .int 0, .ref b46, .ref b47, .ref b48, .ref b49, .ref b50, .int 0]))]) [15] (by decide) rfl
  have hFc := va_free (wc := [(g0, .inr (10, [.int 0, .ref b1, .ref b2, .ref b3, .ref b4, .ref b1, .int 0, .int 0, .int 0, .int 0, .int 0, .int 0, .int 0, .int 0, .int 0, .int 0, .ref (ad 5), .ref (ad 7), .int 0, .ref b19, .ref b20, .ref b21, .ref b22, .ref b23, .ref b24, .ref b25, .int 0, .int 0, .ref b28, .ref b29, .ref b30, .ref b31, .ref b32, .ref b33, .ref b34, .ref b35, .ref b36, .int 0, .int 0, .long 0, .ref b40, .ref b41, .ref b42, .ref b43, .ref b44, .int 0, .ref b46, .ref b47, .ref b48, .ref b49, .ref b50, .int 0]))]) hD hS hA [15] rfl
  refine va_calli (va_runV (As := [.int (xs (Int32.toNatClampNeg 1)), .long z_17]) (rest := [.int (-1)]) ⟨hx, hb, hml, hown, hts⟩ (c_lookers10 l dC dI g0 (.int 0 : Value) (.ref b1 : Value) (.ref b2 : Value) (.ref b3 : Value) (.ref b4 : Value) (.ref b1 : Value) (.int 0 : Value) (.int 0 : Value) (.int 0 : Value) (.int 0 : Value) (.int 0 : Value) (.int 0 : Value) (.int 0 : Value) (.int 0 : Value) (.int 0 : Value) (.ref (ad 5) : Value) (.ref (ad 7) : Value) (.int 0 : Value) (.ref b19 : Value) (.ref b20 : Value) (.ref b21 : Value) (.ref b22 : Value) (.ref b23 : Value) (.ref b24 : Value) (.ref b25 : Value) (.int 0 : Value) (.int 0 : Value) (.ref b28 : Value) (.ref b29 : Value) (.ref b30 : Value) (.ref b31 : Value) (.ref b32 : Value) (.ref b33 : Value) (.ref b34 : Value) (.ref b35 : Value) (.ref b36 : Value) (.int 0 : Value) (.int 0 : Value) (.long 0 : Value) (.ref b40 : Value) (.ref b41 : Value) (.ref b42 : Value) (.ref b43 : Value) (.ref b44 : Value) (.int 0 : Value) (.ref b46 : Value) (.ref b47 : Value) (.ref b48 : Value) (.ref b49 : Value) (.ref b50 : Value) (.int 0 : Value) (xs (Int32.toNatClampNeg 1)) z_17 H.size) (cwV 2 hts (kG (List.forall_mem_cons.mpr ⟨tw_1565, (List.forall_mem_cons.mpr ⟨tw_1566, (List.forall_mem_cons.mpr ⟨tw_1567, (List.forall_mem_cons.mpr ⟨tw_85, (fun _ h => absurd h List.not_mem_nil)⟩)⟩)⟩)⟩) (by decide +kernel) in_w_c_lookers10 gw_c_lookers10) rfl rfl rfl (by decide +kernel) ⟨(Nat.le_of_ble_eq_true rfl), (Nat.le_of_ble_eq_true rfl)⟩) (kW_V kT_blind kT_give (va_recv hKc hPc (ci := 10) (q0 := 0) rfl rfl) hPc hKc hDc) rfl rfl hl.1 rfl (lv_room (Nat.le_of_ble_eq_true rfl)) dL_law_1759 ⟨(Nat.le_of_ble_eq_true rfl), (Nat.le_of_ble_eq_true rfl)⟩) hS (fun q _ h => hFc q h) hFc (fun r_18 u t H1 locs ht hvm hw hB hz1 hk1 hS => ?_)
  have hP1 : va_P (dC, dI) vwCl [] H1 := fun k q h => by simp at h
  have hD1 : va_D (va_A [(g0, .inr (10, [.int 0, .ref b1, .ref b2, .ref b3, .ref b4, .ref b1, .int 0, .int 0, .int 0, .int 0, .int 0, .int 0, .int 0, .int 0, .int 0, .int 0, .ref (ad 5), .ref (ad 7), .int 0, .ref b19, .ref b20, .ref b21, .ref b22, .ref b23, .ref b24, .ref b25, .int 0, .int 0, .ref b28, .ref b29, .ref b30, .ref b31, .ref b32, .ref b33, .ref b34, .ref b35, .ref b36, .int 0, .int 0, .long 0, .ref b40, .ref b41, .ref b42, .ref b43, .ref b44, .int 0, .ref b46, .ref b47, .ref b48, .ref b49, .ref b50, .int 0]))] H.size) [] := ⟨fun i j p q h => by simp at h, fun k q h => by simp at h⟩
  try dsimp only at hw
  obtain ⟨hP, hD⟩ := va_join (wr := [(h0, .inr (9, [.ref jT, .ref jR, .ref e2, .ref jL, .ref jU, .ref jF, .ref e6, .ref jN, .ref jA, .ref e9])), (jT, .inr (8, [.ref t0, .int 0])), (t0, .inl (cC, 120, .inl (fun _ => 0))), (jR, .inr (4, [.ref jT, .ref r1, .ref r2, .int 0, .int 0, .int 0, .ref (ad 0), .ref (ad 0)])), (jL, .inr (7, [.ref l0, .int 0])), (l0, .inl (cL, 6, .inr (.inr (.inr (.inr (fun _ => none)))))), (jU, .inr (7, [.ref m0, .int 0])), (m0, .inl (cM, 8, .inr (.inr (.inr (.inr (fun _ => none)))))), (jF, .inr (2, [.ref f0, .ref f1, .ref f2, .ref f3, .ref f4, .int 0, .int 0, .int 0])), (f0, .inl (z0, 10, .inl (fun _ => 0))), (f1, .inl (z1, 10, .inl (fun _ => 0))), (f2, .inl (z2, 10, .inl (fun _ => 0))), (f4, .inl (z4, 4, .inl (fun _ => 0))), (jN, .inr (3, [.ref n0, .ref n1, .ref n2, .ref n3, .ref n4, .int 0])), (jA, .inr (0, [.ref a0, .ref a1, .ref a2, .ref a3, .int 0])), (b1, .inl (y1, 120, .inl (fun _ => 0))), (b19, .inl (y19, 10, .inl (fun _ => 0))), (b20, .inl (y20, 10, .inl (fun _ => 0))), (b21, .inl (y21, 10, .inl (fun _ => 0))), (b22, .inl (y22, 10, .inl (fun _ => 0))), (b23, .inl (y23, 10, .inl (fun _ => 0))), (b24, .inl (y24, 4, .inl (fun _ => 0))), (b25, .inl (y25, 10, .inl (fun _ => 0))), (o0, .inl (cO, 1, .inr (.inl (fun _ => 0))))]) (w1 := []) hP hD [15] [0, 1, 2, 3, 4, 5, 6, 7, 8, 9, 10, 11, 12, 13, 14, 16, 17, 18, 19, 20, 21, 22, 23, 24] rfl rfl (by decide) (by decide) hk1 hFc hP1 hD1
  generalize H1 = H at hP hS ⊢
  have hP : va_P (dC, dI) vwCl [(h0, .inr (9, [.ref jT, .ref jR, .ref e2, .ref jL, .ref jU, .ref jF, .ref e6, .ref jN, .ref jA, .ref e9])), (jT, .inr (8, [.ref t0, .int 0])), (t0, .inl (cC, 120, .inl (fun _ => 0))), (jR, .inr (4, [.ref jT, .ref r1, .ref r2, .int 0, .int 0, .int 0, .ref (ad 0), .ref (ad 0)])), (jL, .inr (7, [.ref l0, .int 0])), (l0, .inl (cL, 6, .inr (.inr (.inr (.inr (fun _ => none)))))), (jU, .inr (7, [.ref m0, .int 0])), (m0, .inl (cM, 8, .inr (.inr (.inr (.inr (fun _ => none)))))), (jF, .inr (2, [.ref f0, .ref f1, .ref f2, .ref f3, .ref f4, .int 0, .int 0, .int 0])), (f0, .inl (z0, 10, .inl (fun _ => 0))), (f1, .inl (z1, 10, .inl (fun _ => 0))), (f2, .inl (z2, 10, .inl (fun _ => 0))), (f4, .inl (z4, 4, .inl (fun _ => 0))), (jN, .inr (3, [.ref n0, .ref n1, .ref n2, .ref n3, .ref n4, .int 0])), (jA, .inr (0, [.ref a0, .ref a1, .ref a2, .ref a3, .int 0])), (b1, .inl (y1, 120, .inl (fun _ => 0))), (b19, .inl (y19, 10, .inl (fun _ => 0))), (b20, .inl (y20, 10, .inl (fun _ => 0))), (b21, .inl (y21, 10, .inl (fun _ => 0))), (b22, .inl (y22, 10, .inl (fun _ => 0))), (b23, .inl (y23, 10, .inl (fun _ => 0))), (b24, .inl (y24, 4, .inl (fun _ => 0))), (b25, .inl (y25, 10, .inl (fun _ => 0))), (o0, .inl (cO, 1, .inr (.inl (fun _ => 0))))] H := hP
  have hD : va_D (fun q : Nat => s.heap.size ≤ q) [(h0, .inr (9, [.ref jT, .ref jR, .ref e2, .ref jL, .ref jU, .ref jF, .ref e6, .ref jN, .ref jA, .ref e9])), (jT, .inr (8, [.ref t0, .int 0])), (t0, .inl (cC, 120, .inl (fun _ => 0))), (jR, .inr (4, [.ref jT, .ref r1, .ref r2, .int 0, .int 0, .int 0, .ref (ad 0), .ref (ad 0)])), (jL, .inr (7, [.ref l0, .int 0])), (l0, .inl (cL, 6, .inr (.inr (.inr (.inr (fun _ => none)))))), (jU, .inr (7, [.ref m0, .int 0])), (m0, .inl (cM, 8, .inr (.inr (.inr (.inr (fun _ => none)))))), (jF, .inr (2, [.ref f0, .ref f1, .ref f2, .ref f3, .ref f4, .int 0, .int 0, .int 0])), (f0, .inl (z0, 10, .inl (fun _ => 0))), (f1, .inl (z1, 10, .inl (fun _ => 0))), (f2, .inl (z2, 10, .inl (fun _ => 0))), (f4, .inl (z4, 4, .inl (fun _ => 0))), (jN, .inr (3, [.ref n0, .ref n1, .ref n2, .ref n3, .ref n4, .int 0])), (jA, .inr (0, [.ref a0, .ref a1, .ref a2, .ref a3, .int 0])), (b1, .inl (y1, 120, .inl (fun _ => 0))), (b19, .inl (y19, 10, .inl (fun _ => 0))), (b20, .inl (y20, 10, .inl (fun _ => 0))), (b21, .inl (y21, 10, .inl (fun _ => 0))), (b22, .inl (y22, 10, .inl (fun _ => 0))), (b23, .inl (y23, 10, .inl (fun _ => 0))), (b24, .inl (y24, 4, .inl (fun _ => 0))), (b25, .inl (y25, 10, .inl (fun _ => 0))), (o0, .inl (cO, 1, .inr (.inl (fun _ => 0))))] := hD
  obtain rfl : r_18 = (-1) := hw
  refine lv_icmp_eq (tgt := 1792) hx hb dL_law_1762 (by decide) (fun c_19 => ?_) (fun c_19 => absurd (by decide) c_19)
  exact law_tail C0 hS (Nat.le_of_ble_eq_true rfl) (Nat.le_of_ble_eq_true rfl) (lv_sub hl [0, 1, 2, 3, 4] rfl)
