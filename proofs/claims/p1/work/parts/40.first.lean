theorem dL_law_33 : decode cL_law 33 = .ok (.aload_n 0, 1) := by decide +kernel
theorem dL_law_34 : decode cL_law 34 = .ok (.iload 4, 2) := by decide +kernel
theorem dL_law_36 : decode cL_law 36 = .ok (.iaload, 1) := by decide +kernel
theorem dL_law_37 : decode cL_law 37 = .ok (.bipush 31, 2) := by decide +kernel
theorem dL_law_39 : decode cL_law 39 = .ok (.iand, 1) := by decide +kernel
theorem dL_law_40 : decode cL_law 40 = .ok (.tableswitch 1752 0 25 #[120, 193, 218, 243, 268, 345, 382, 407, 487, 594, 687, 780, 861, 954, 1027, 1112, 1193, 1287, 1324, 1349, 1386, 1423, 1504, 1565, 1658, 1727], 120) := by decide +kernel
set_option maxHeartbeats 4000000 in
set_option maxRecDepth 100000 in
theorem law_first {p : Program} {l : Launch} {e : Env} {s : State} {m : MethodId} {below : List Frame} {meth : Method} {c : Code} {b : Nat} {xs : Nat → Int32} {dC : Nat → ClassId} {dI : Nat → Nat → Nat} {L : Nat} {ad : Nat → Nat} {h0 : Nat} {g0 : Nat} {o0 : Nat} {jT : Nat} {jR : Nat} {e2 : Nat} {jL : Nat} {jU : Nat} {jF : Nat} {e6 : Nat} {jN : Nat} {jA : Nat} {e9 : Nat} {t0 : Nat} {r1 : Nat} {r2 : Nat} {l0 : Nat} {m0 : Nat} {f0 : Nat} {f1 : Nat} {f2 : Nat} {f3 : Nat} {f4 : Nat} {n0 : Nat} {n1 : Nat} {n2 : Nat} {n3 : Nat} {n4 : Nat} {a0 : Nat} {a1 : Nat} {a2 : Nat} {a3 : Nat} {cC : ClassId} {cL : ClassId} {cM : ClassId} {z0 : ClassId} {z1 : ClassId} {z2 : ClassId} {z4 : ClassId} {b1 : Nat} {b2 : Nat} {b3 : Nat} {b4 : Nat} {b19 : Nat} {b20 : Nat} {b21 : Nat} {b22 : Nat} {b23 : Nat} {b24 : Nat} {b25 : Nat} {b28 : Nat} {b29 : Nat} {b30 : Nat} {b31 : Nat} {b32 : Nat} {b33 : Nat} {b34 : Nat} {b35 : Nat} {b36 : Nat} {b40 : Nat} {b41 : Nat} {b42 : Nat} {b43 : Nat} {b44 : Nat} {b46 : Nat} {b47 : Nat} {b48 : Nat} {b49 : Nat} {b50 : Nat} {y1 : ClassId} {y19 : ClassId} {y20 : ClassId} {y21 : ClassId} {y22 : ClassId} {y23 : ClassId} {y24 : ClassId} {y25 : ClassId} {cO : ClassId} (hL : L ≤ 7) (C0 : lw_At p s m meth c b L xs) (hXX : kLaw ad s) (hlt : l.stackTraces = false) {H : Heap} {locs : List Loc} (hK : va_K (dC, dI) vwCl [(cC, .char), (cL, .object RX6), (cM, .object RX6), (z0, .int), (z1, .int), (z2, .int), (z4, .int), (y1, .byte), (y19, .int), (y20, .int), (y21, .int), (y22, .int), (y23, .int), (y24, .int), (y25, .boolean), (cO, .long)] s) (hP : va_P (dC, dI) vwCl [(h0, .inr (9, [.ref jT, .ref jR, .ref e2, .ref jL, .ref jU, .ref jF, .ref e6, .ref jN, .ref jA, .ref e9])), (jT, .inr (8, [.ref t0, .int 0])), (t0, .inl (cC, 120, .inl (fun _ => 0))), (jR, .inr (4, [.ref jT, .ref r1, .ref r2, .int 0, .int 0, .int 0, .ref (ad 0), .ref (ad 0)])), (jL, .inr (7, [.ref l0, .int 0])), (l0, .inl (cL, 6, .inr (.inr (.inr (.inr (fun _ => none)))))), (jU, .inr (7, [.ref m0, .int 0])), (m0, .inl (cM, 8, .inr (.inr (.inr (.inr (fun _ => none)))))), (jF, .inr (2, [.ref f0, .ref f1, .ref f2, .ref f3, .ref f4, .int 0, .int 0, .int 0])), (f0, .inl (z0, 10, .inl (fun _ => 0))), (f1, .inl (z1, 10, .inl (fun _ => 0))), (f2, .inl (z2, 10, .inl (fun _ => 0))), (f4, .inl (z4, 4, .inl (fun _ => 0))), (jN, .inr (3, [.ref n0, .ref n1, .ref n2, .ref n3, .ref n4, .int 0])), (jA, .inr (0, [.ref a0, .ref a1, .ref a2, .ref a3, .int 0])), (g0, .inr (10, [.int 0, .ref b1, .ref b2, .ref b3, .ref b4, .ref b1, .int 0, .int 0, .int 0, .int 0, .int 0, .int 0, .int 0, .int 0, .int 0, .int 0, .ref (ad 5), .ref (ad 7), .int 0, .ref b19, .ref b20, .ref b21, .ref b22, .ref b23, .ref b24, .ref b25, .int 0, .int 0, .ref b28, .ref b29, .ref b30, .ref b31, .ref b32, .ref b33, .ref b34, .ref b35, .ref b36, .int 0, .int 0, .long 0, .ref b40, .ref b41, .ref b42, .ref b43, .ref b44, .int 0, .ref b46, .ref b47, .ref b48, .ref b49, .ref b50, .int 0])), (b1, .inl (y1, 120, .inl (fun _ => 0))), (b19, .inl (y19, 10, .inl (fun _ => 0))), (b20, .inl (y20, 10, .inl (fun _ => 0))), (b21, .inl (y21, 10, .inl (fun _ => 0))), (b22, .inl (y22, 10, .inl (fun _ => 0))), (b23, .inl (y23, 10, .inl (fun _ => 0))), (b24, .inl (y24, 4, .inl (fun _ => 0))), (b25, .inl (y25, 10, .inl (fun _ => 0))), (o0, .inl (cO, 1, .inr (.inl (fun _ => 0))))] H) (hD : va_D (fun q : Nat => s.heap.size ≤ q) [(h0, .inr (9, [.ref jT, .ref jR, .ref e2, .ref jL, .ref jU, .ref jF, .ref e6, .ref jN, .ref jA, .ref e9])), (jT, .inr (8, [.ref t0, .int 0])), (t0, .inl (cC, 120, .inl (fun _ => 0))), (jR, .inr (4, [.ref jT, .ref r1, .ref r2, .int 0, .int 0, .int 0, .ref (ad 0), .ref (ad 0)])), (jL, .inr (7, [.ref l0, .int 0])), (l0, .inl (cL, 6, .inr (.inr (.inr (.inr (fun _ => none)))))), (jU, .inr (7, [.ref m0, .int 0])), (m0, .inl (cM, 8, .inr (.inr (.inr (.inr (fun _ => none)))))), (jF, .inr (2, [.ref f0, .ref f1, .ref f2, .ref f3, .ref f4, .int 0, .int 0, .int 0])), (f0, .inl (z0, 10, .inl (fun _ => 0))), (f1, .inl (z1, 10, .inl (fun _ => 0))), (f2, .inl (z2, 10, .inl (fun _ => 0))), (f4, .inl (z4, 4, .inl (fun _ => 0))), (jN, .inr (3, [.ref n0, .ref n1, .ref n2, .ref n3, .ref n4, .int 0])), (jA, .inr (0, [.ref a0, .ref a1, .ref a2, .ref a3, .int 0])), (g0, .inr (10, [.int 0, .ref b1, .ref b2, .ref b3, .ref b4, .ref b1, .int 0, .int 0, .int 0, .int 0, .int 0, .int 0, .int 0, .int 0, .int 0, .int 0, .ref (ad 5), .ref (ad 7), .int 0, .ref b19, .ref b20, .ref b21, .ref b22, .ref b23, .ref b24, .ref b25, .int 0, .int 0, .ref b28, .ref b29, .ref b30, .ref b31, .ref b32, .ref b33, .ref b34, .ref b35, .ref b36, .int 0, .int 0, .long 0, .ref b40, .ref b41, .ref b42, .ref b43, .ref b44, .int 0, .ref b46, .ref b47, .ref b48, .ref b49, .ref b50, .int 0])), (b1, .inl (y1, 120, .inl (fun _ => 0))), (b19, .inl (y19, 10, .inl (fun _ => 0))), (b20, .inl (y20, 10, .inl (fun _ => 0))), (b21, .inl (y21, 10, .inl (fun _ => 0))), (b22, .inl (y22, 10, .inl (fun _ => 0))), (b23, .inl (y23, 10, .inl (fun _ => 0))), (b24, .inl (y24, 4, .inl (fun _ => 0))), (b25, .inl (y25, 10, .inl (fun _ => 0))), (o0, .inl (cO, 1, .inr (.inl (fun _ => 0))))]) (hS : va_S (fun q : Nat => s.heap.size ≤ q) s.heap H locs) {ls : Array Slot} (hl : lv_has ls 7 [(4, .int 0), (3, .ref o0), (2, .ref g0), (1, .ref h0), (0, .ref b)]) : W p l e room_1 s m #[Value.ref b] below meth c H locs 76 3048 (lw_Z below #[Value.ref b] s) (F0 m 23 ls []) := by
  obtain ⟨hx, hb, hr, hml, hown, hts, hX, hbl, hlocks, hgv⟩ := id C0
  have hown : s.vm.findClass RL = some m.cls := hown
  have hA : ∀ q : Nat, s.heap.size ≤ q → (fun q : Nat => s.heap.size ≤ q) q := fun _ h => h
  have hbA : ¬ (fun q : Nat => s.heap.size ≤ q) b := Nat.not_le.mpr hbl
  refine lv_iload hx hb dL_law_23 (lv_at hl 0 rfl) ?_
  refine lv_aload_n hx hb dL_law_25 rfl (lv_at hl 4 rfl) ?_
  refine va_slen hx hb hX hbl hbA hS dL_law_26 ?_
  refine lv_bipush (v := 7) hx hb dL_law_27 (by decide) ?_
  refine lv_isub hx hb dL_law_29 ?_
  refine lv_topi (fun x_1 ex_1 => ?_)
  refine lv_icmp_gt (tgt := 1798) hx hb dL_law_30 (by decide) (fun c1 => ?_) (fun c1 => ?_)
  · refine lv_iconst (v := 1) hx hb dL_law_1798 (by decide) ?_
    refine va_forget (fun q hq => hS.2.2 q hq) ?_
    refine W.widen (k := 600002) (n := 7302232) (Nat.le_of_ble_eq_true rfl) (Nat.le_of_ble_eq_true rfl) ?_
    exact lw_ret hx hb hr hlocks dL_law_1799
  have h7 : L = 7 := by
    rw [ex_1] at c1
    rcases (show L = 0 ∨ L = 1 ∨ L = 2 ∨ L = 3 ∨ L = 4 ∨ L = 5 ∨ L = 6 ∨ L = 7 by omega) with rfl | rfl | rfl | rfl | rfl | rfl | rfl | rfl
    · exact absurd (by decide) c1
    · exact absurd (by decide) c1
    · exact absurd (by decide) c1
    · exact absurd (by decide) c1
    · exact absurd (by decide) c1
    · exact absurd (by decide) c1
    · exact absurd (by decide) c1
    · rfl
  subst h7
  refine lv_aload_n hx hb dL_law_33 rfl (lv_at hl 4 rfl) ?_
  refine lv_iload hx hb dL_law_34 (lv_at hl 0 rfl) ?_
  refine va_sld hx hb hX hbl hbA hS (by unfold vp_in; decide) dL_law_36 ?_
  refine lv_bipush (v := 31) hx hb dL_law_37 (by decide) ?_
  refine lv_iand hx hb dL_law_39 ?_
  refine lv_topi (fun x_2 ex_2 => ?_)
  obtain ⟨k, hk, ek⟩ := pk_andE (xs (Int32.toNatClampNeg 0)) (m := 31) 5 (by decide)
  rw [← ex_2] at ek
  rw [ek]
  rcases (show k = 0 ∨ k = 1 ∨ k = 2 ∨ k = 3 ∨ k = 4 ∨ k = 5 ∨ k = 6 ∨ k = 7 ∨ k = 8 ∨ k = 9 ∨ k = 10 ∨ k = 11 ∨ k = 12 ∨ k = 13 ∨ k = 14 ∨ k = 15 ∨ k = 16 ∨ k = 17 ∨ k = 18 ∨ k = 19 ∨ k = 20 ∨ k = 21 ∨ k = 22 ∨ k = 23 ∨ k = 24 ∨ k = 25 ∨ k = 26 ∨ k = 27 ∨ k = 28 ∨ k = 29 ∨ k = 30 ∨ k = 31 by omega) with rfl | rfl | rfl | rfl | rfl | rfl | rfl | rfl | rfl | rfl | rfl | rfl | rfl | rfl | rfl | rfl | rfl | rfl | rfl | rfl | rfl | rfl | rfl | rfl | rfl | rfl | rfl | rfl | rfl | rfl | rfl | rfl
  · exact lv_tableIn (x := nI 0) (tgt := 160) hx hb dL_law_40 (by decide) (by decide) rfl (by decide) (law_0 C0 hXX hK hP hD hS hl hlt)
  · exact lv_tableIn (x := nI 1) (tgt := 233) hx hb dL_law_40 (by decide) (by decide) rfl (by decide) (law_1 C0 hXX hK hP hD hS hl hlt)
  · exact lv_tableIn (x := nI 2) (tgt := 258) hx hb dL_law_40 (by decide) (by decide) rfl (by decide) (law_2 C0 hXX hK hP hD hS hl hlt)
  · exact lv_tableIn (x := nI 3) (tgt := 283) hx hb dL_law_40 (by decide) (by decide) rfl (by decide) (law_3 C0 hXX hK hP hD hS hl hlt)
  · exact lv_tableIn (x := nI 4) (tgt := 308) hx hb dL_law_40 (by decide) (by decide) rfl (by decide) (law_4 C0 hXX hK hP hD hS hl hlt)
  · exact lv_tableIn (x := nI 5) (tgt := 385) hx hb dL_law_40 (by decide) (by decide) rfl (by decide) (law_5 C0 hXX hK hP hD hS hl hlt)
  · exact lv_tableIn (x := nI 6) (tgt := 422) hx hb dL_law_40 (by decide) (by decide) rfl (by decide) (law_6 C0 hXX hK hP hD hS hl hlt)
  · exact lv_tableIn (x := nI 7) (tgt := 447) hx hb dL_law_40 (by decide) (by decide) rfl (by decide) (law_7 C0 hXX hK hP hD hS hl hlt)
  · exact lv_tableIn (x := nI 8) (tgt := 527) hx hb dL_law_40 (by decide) (by decide) rfl (by decide) (law_8 C0 hXX hK hP hD hS hl hlt)
  · exact lv_tableIn (x := nI 9) (tgt := 634) hx hb dL_law_40 (by decide) (by decide) rfl (by decide) (law_9 C0 hXX hK hP hD hS hl hlt)
  · exact lv_tableIn (x := nI 10) (tgt := 727) hx hb dL_law_40 (by decide) (by decide) rfl (by decide) (law_10 C0 hXX hK hP hD hS hl hlt)
  · exact lv_tableIn (x := nI 11) (tgt := 820) hx hb dL_law_40 (by decide) (by decide) rfl (by decide) (law_11 C0 hXX hK hP hD hS hl hlt)
  · exact lv_tableIn (x := nI 12) (tgt := 901) hx hb dL_law_40 (by decide) (by decide) rfl (by decide) (law_12 C0 hXX hK hP hD hS hl hlt)
  · exact lv_tableIn (x := nI 13) (tgt := 994) hx hb dL_law_40 (by decide) (by decide) rfl (by decide) (law_13 C0 hXX hK hP hD hS hl hlt)
  · exact lv_tableIn (x := nI 14) (tgt := 1067) hx hb dL_law_40 (by decide) (by decide) rfl (by decide) (law_14 C0 hXX hK hP hD hS hl hlt)
  · exact lv_tableIn (x := nI 15) (tgt := 1152) hx hb dL_law_40 (by decide) (by decide) rfl (by decide) (law_15 C0 hXX hK hP hD hS hl hlt)
  · exact lv_tableIn (x := nI 16) (tgt := 1233) hx hb dL_law_40 (by decide) (by decide) rfl (by decide) (law_16 C0 hXX hK hP hD hS hl hlt)
  · exact lv_tableIn (x := nI 17) (tgt := 1327) hx hb dL_law_40 (by decide) (by decide) rfl (by decide) (law_17 C0 hXX hK hP hD hS hl hlt)
  · exact lv_tableIn (x := nI 18) (tgt := 1364) hx hb dL_law_40 (by decide) (by decide) rfl (by decide) (law_18 C0 hXX hK hP hD hS hl hlt)
  · exact lv_tableIn (x := nI 19) (tgt := 1389) hx hb dL_law_40 (by decide) (by decide) rfl (by decide) (law_19 C0 hXX hK hP hD hS hl hlt)
  · exact lv_tableIn (x := nI 20) (tgt := 1426) hx hb dL_law_40 (by decide) (by decide) rfl (by decide) (law_20 C0 hXX hK hP hD hS hl hlt)
  · exact lv_tableIn (x := nI 21) (tgt := 1463) hx hb dL_law_40 (by decide) (by decide) rfl (by decide) (law_21 C0 hXX hK hP hD hS hl hlt)
  · exact lv_tableIn (x := nI 22) (tgt := 1544) hx hb dL_law_40 (by decide) (by decide) rfl (by decide) (law_22 C0 hXX hK hP hD hS hl hlt)
  · exact lv_tableIn (x := nI 23) (tgt := 1605) hx hb dL_law_40 (by decide) (by decide) rfl (by decide) (law_23 C0 hXX hK hP hD hS hl hlt)
  · exact lv_tableIn (x := nI 24) (tgt := 1698) hx hb dL_law_40 (by decide) (by decide) rfl (by decide) (law_24 C0 hXX hK hP hD hS hl hlt)
  · exact lv_tableIn (x := nI 25) (tgt := 1767) hx hb dL_law_40 (by decide) (by decide) rfl (by decide) (law_25 C0 hXX hK hP hD hS hl hlt)
  · exact lv_tableOut (x := nI 26) (tgt := 1792) hx hb dL_law_40 (Or.inr (by decide)) (by decide) (law_tail C0 hS (Nat.le_of_ble_eq_true rfl) (Nat.le_of_ble_eq_true rfl) hl)
  · exact lv_tableOut (x := nI 27) (tgt := 1792) hx hb dL_law_40 (Or.inr (by decide)) (by decide) (law_tail C0 hS (Nat.le_of_ble_eq_true rfl) (Nat.le_of_ble_eq_true rfl) hl)
  · exact lv_tableOut (x := nI 28) (tgt := 1792) hx hb dL_law_40 (Or.inr (by decide)) (by decide) (law_tail C0 hS (Nat.le_of_ble_eq_true rfl) (Nat.le_of_ble_eq_true rfl) hl)
  · exact lv_tableOut (x := nI 29) (tgt := 1792) hx hb dL_law_40 (Or.inr (by decide)) (by decide) (law_tail C0 hS (Nat.le_of_ble_eq_true rfl) (Nat.le_of_ble_eq_true rfl) hl)
  · exact lv_tableOut (x := nI 30) (tgt := 1792) hx hb dL_law_40 (Or.inr (by decide)) (by decide) (law_tail C0 hS (Nat.le_of_ble_eq_true rfl) (Nat.le_of_ble_eq_true rfl) hl)
  · exact lv_tableOut (x := nI 31) (tgt := 1792) hx hb dL_law_40 (Or.inr (by decide)) (by decide) (law_tail C0 hS (Nat.le_of_ble_eq_true rfl) (Nat.le_of_ble_eq_true rfl) hl)
