theorem dL_law_1152 : decode cL_law 1152 = .ok (.aload_n 1, 1) := by decide +kernel
theorem dL_law_1153 : decode cL_law 1153 = .ok (.aload_n 0, 1) := by decide +kernel
theorem dL_law_1154 : decode cL_law 1154 = .ok (.iload 4, 2) := by decide +kernel
theorem dL_law_1156 : decode cL_law 1156 = .ok (.iconst 1, 1) := by decide +kernel
theorem dL_law_1157 : decode cL_law 1157 = .ok (.iadd, 1) := by decide +kernel
theorem dL_law_1158 : decode cL_law 1158 = .ok (.iaload, 1) := by decide +kernel
theorem dL_law_1159 : decode cL_law 1159 = .ok (.aload_n 0, 1) := by decide +kernel
theorem dL_law_1160 : decode cL_law 1160 = .ok (.iload 4, 2) := by decide +kernel
theorem dL_law_1162 : decode cL_law 1162 = .ok (.iconst 2, 1) := by decide +kernel
theorem dL_law_1163 : decode cL_law 1163 = .ok (.iadd, 1) := by decide +kernel
theorem dL_law_1164 : decode cL_law 1164 = .ok (.iaload, 1) := by decide +kernel
theorem dL_law_1165 : decode cL_law 1165 = .ok (.i2l, 1) := by decide +kernel
theorem dL_law_1166 : decode cL_law 1166 = .ok (.bipush 32, 2) := by decide +kernel
theorem dL_law_1168 : decode cL_law 1168 = .ok (.lshl, 1) := by decide +kernel
theorem dL_law_1169 : decode cL_law 1169 = .ok (.aload_n 0, 1) := by decide +kernel
theorem dL_law_1170 : decode cL_law 1170 = .ok (.iload 4, 2) := by decide +kernel
theorem dL_law_1172 : decode cL_law 1172 = .ok (.iconst 3, 1) := by decide +kernel
theorem dL_law_1173 : decode cL_law 1173 = .ok (.iadd, 1) := by decide +kernel
theorem dL_law_1174 : decode cL_law 1174 = .ok (.iaload, 1) := by decide +kernel
theorem dL_law_1175 : decode cL_law 1175 = .ok (.i2l, 1) := by decide +kernel
theorem dL_law_1176 : decode cL_law 1176 = .ok (.ldc2_w 62, 3) := by decide +kernel
theorem dL_law_1179 : decode cL_law 1179 = .ok (.land, 1) := by decide +kernel
theorem dL_law_1180 : decode cL_law 1180 = .ok (.lor, 1) := by decide +kernel
theorem dL_law_1181 : decode cL_law 1181 = .ok (.aload_n 0, 1) := by decide +kernel
theorem dL_law_1182 : decode cL_law 1182 = .ok (.iload 4, 2) := by decide +kernel
theorem dL_law_1184 : decode cL_law 1184 = .ok (.iconst 4, 1) := by decide +kernel
theorem dL_law_1185 : decode cL_law 1185 = .ok (.iadd, 1) := by decide +kernel
theorem dL_law_1186 : decode cL_law 1186 = .ok (.iaload, 1) := by decide +kernel
theorem dL_law_1187 : decode cL_law 1187 = .ok (.invokevirtual 96, 3) := by decide +kernel
theorem dL_law_1190 : decode cL_law 1190 = .ok (.aload_n 2, 1) := by decide +kernel
theorem dL_law_1191 : decode cL_law 1191 = .ok (.aload_n 0, 1) := by decide +kernel
theorem dL_law_1192 : decode cL_law 1192 = .ok (.iload 4, 2) := by decide +kernel
theorem dL_law_1194 : decode cL_law 1194 = .ok (.iconst 1, 1) := by decide +kernel
theorem dL_law_1195 : decode cL_law 1195 = .ok (.iadd, 1) := by decide +kernel
theorem dL_law_1196 : decode cL_law 1196 = .ok (.iaload, 1) := by decide +kernel
theorem dL_law_1197 : decode cL_law 1197 = .ok (.aload_n 0, 1) := by decide +kernel
theorem dL_law_1198 : decode cL_law 1198 = .ok (.iload 4, 2) := by decide +kernel
theorem dL_law_1200 : decode cL_law 1200 = .ok (.iconst 2, 1) := by decide +kernel
theorem dL_law_1201 : decode cL_law 1201 = .ok (.iadd, 1) := by decide +kernel
theorem dL_law_1202 : decode cL_law 1202 = .ok (.iaload, 1) := by decide +kernel
theorem dL_law_1203 : decode cL_law 1203 = .ok (.i2l, 1) := by decide +kernel
theorem dL_law_1204 : decode cL_law 1204 = .ok (.bipush 32, 2) := by decide +kernel
theorem dL_law_1206 : decode cL_law 1206 = .ok (.lshl, 1) := by decide +kernel
theorem dL_law_1207 : decode cL_law 1207 = .ok (.aload_n 0, 1) := by decide +kernel
theorem dL_law_1208 : decode cL_law 1208 = .ok (.iload 4, 2) := by decide +kernel
theorem dL_law_1210 : decode cL_law 1210 = .ok (.iconst 3, 1) := by decide +kernel
theorem dL_law_1211 : decode cL_law 1211 = .ok (.iadd, 1) := by decide +kernel
theorem dL_law_1212 : decode cL_law 1212 = .ok (.iaload, 1) := by decide +kernel
theorem dL_law_1213 : decode cL_law 1213 = .ok (.i2l, 1) := by decide +kernel
theorem dL_law_1214 : decode cL_law 1214 = .ok (.ldc2_w 62, 3) := by decide +kernel
theorem dL_law_1217 : decode cL_law 1217 = .ok (.land, 1) := by decide +kernel
theorem dL_law_1218 : decode cL_law 1218 = .ok (.lor, 1) := by decide +kernel
theorem dL_law_1219 : decode cL_law 1219 = .ok (.aload_n 0, 1) := by decide +kernel
theorem dL_law_1220 : decode cL_law 1220 = .ok (.iload 4, 2) := by decide +kernel
theorem dL_law_1222 : decode cL_law 1222 = .ok (.iconst 4, 1) := by decide +kernel
theorem dL_law_1223 : decode cL_law 1223 = .ok (.iadd, 1) := by decide +kernel
theorem dL_law_1224 : decode cL_law 1224 = .ok (.iaload, 1) := by decide +kernel
theorem dL_law_1225 : decode cL_law 1225 = .ok (.invokevirtual 99, 3) := by decide +kernel
theorem dL_law_1228 : decode cL_law 1228 = .ok (.if_icmp .eq 564, 3) := by decide +kernel
set_option maxHeartbeats 4000000 in
set_option maxRecDepth 100000 in
theorem law_15 {p : Program} {l : Launch} {e : Env} {s : State} {m : MethodId} {below : List Frame} {meth : Method} {c : Code} {b : Nat} {xs : Nat → Int32} {dC : Nat → ClassId} {dI : Nat → Nat → Nat} {ad : Nat → Nat} {h0 : Nat} {g0 : Nat} {o0 : Nat} {jT : Nat} {jR : Nat} {e2 : Nat} {jL : Nat} {jU : Nat} {jF : Nat} {e6 : Nat} {jN : Nat} {jA : Nat} {e9 : Nat} {t0 : Nat} {r1 : Nat} {r2 : Nat} {l0 : Nat} {m0 : Nat} {f0 : Nat} {f1 : Nat} {f2 : Nat} {f3 : Nat} {f4 : Nat} {n0 : Nat} {n1 : Nat} {n2 : Nat} {n3 : Nat} {n4 : Nat} {a0 : Nat} {a1 : Nat} {a2 : Nat} {a3 : Nat} {cC : ClassId} {cL : ClassId} {cM : ClassId} {z0 : ClassId} {z1 : ClassId} {z2 : ClassId} {z4 : ClassId} {b1 : Nat} {b2 : Nat} {b3 : Nat} {b4 : Nat} {b19 : Nat} {b20 : Nat} {b21 : Nat} {b22 : Nat} {b23 : Nat} {b24 : Nat} {b25 : Nat} {b28 : Nat} {b29 : Nat} {b30 : Nat} {b31 : Nat} {b32 : Nat} {b33 : Nat} {b34 : Nat} {b35 : Nat} {b36 : Nat} {b40 : Nat} {b41 : Nat} {b42 : Nat} {b43 : Nat} {b44 : Nat} {b46 : Nat} {b47 : Nat} {b48 : Nat} {b49 : Nat} {b50 : Nat} {y1 : ClassId} {y19 : ClassId} {y20 : ClassId} {y21 : ClassId} {y22 : ClassId} {y23 : ClassId} {y24 : ClassId} {y25 : ClassId} {cO : ClassId} (C0 : lw_At p s m meth c b 7 xs) (hXX : kLaw ad s) {H : Heap} {locs : List Loc} (hK : va_K (dC, dI) vwCl [(cC, .char), (cL, .object RX6), (cM, .object RX6), (z0, .int), (z1, .int), (z2, .int), (z4, .int), (y1, .byte), (y19, .int), (y20, .int), (y21, .int), (y22, .int), (y23, .int), (y24, .int), (y25, .boolean), (cO, .long)] s) (hP : va_P (dC, dI) vwCl [(h0, .inr (9, [.ref jT, .ref jR, .ref e2, .ref jL, .ref jU, .ref jF, .ref e6, .ref jN, .ref jA, .ref e9])), (jT, .inr (8, [.ref t0, .int 0])), (t0, .inl (cC, 120, .inl (fun _ => 0))), (jR, .inr (4, [.ref jT, .ref r1, .ref r2, .int 0, .int 0, .int 0, .ref (ad 0), .ref (ad 0)])), (jL, .inr (7, [.ref l0, .int 0])), (l0, .inl (cL, 6, .inr (.inr (.inr (.inr (fun _ => none)))))), (jU, .inr (7, [.ref m0, .int 0])), (m0, .inl (cM, 8, .inr (.inr (.inr (.inr (fun _ => none)))))), (jF, .inr (2, [.ref f0, .ref f1, .ref f2, .ref f3, .ref f4, .int 0, .int 0, .int 0])), (f0, .inl (z0, 10, .inl (fun _ => 0))), (f1, .inl (z1, 10, .inl (fun _ => 0))), (f2, .inl (z2, 10, .inl (fun _ => 0))), (f4, .inl (z4, 4, .inl (fun _ => 0))), (jN, .inr (3, [.ref n0, .ref n1, .ref n2, .ref n3, .ref n4, .int 0])), (jA, .inr (0, [.ref a0, .ref a1, .ref a2, .ref a3, .int 0])), (g0, .inr (10, [.int 0, .ref b1, .ref b2, .ref b3, .ref b4, .ref b1, .int 0, .int 0, .int 0, .int 0, .int 0, .int 0, .int 0, .int 0, .int 0, .int 0, .ref (ad 5), .ref (ad 7), .int 0, .ref b19, .ref b20, .ref b21, .ref b22, .ref b23, .ref b24, .ref b25, .int 0, .int 0, .ref b28, .ref b29, .ref b30, .ref b31, .ref b32, .ref b33, .ref b34, .ref b35, .ref b36, .int 0, .int 0, .long 0, .ref b40, .ref b41, .ref b42, .ref b43, .ref b44, .int 0, .ref b46, .ref b47, .ref b48, .ref b49, .ref b50, .int 0])), (b1, .inl (y1, 120, .inl (fun _ => 0))), (b19, .inl (y19, 10, .inl (fun _ => 0))), (b20, .inl (y20, 10, .inl (fun _ => 0))), (b21, .inl (y21, 10, .inl (fun _ => 0))), (b22, .inl (y22, 10, .inl (fun _ => 0))), (b23, .inl (y23, 10, .inl (fun _ => 0))), (b24, .inl (y24, 4, .inl (fun _ => 0))), (b25, .inl (y25, 10, .inl (fun _ => 0))), (o0, .inl (cO, 1, .inr (.inl (fun _ => 0))))] H) (hD : va_D (fun q : Nat => s.heap.size ≤ q) [(h0, .inr (9, [.ref jT, .ref jR, .ref e2, .ref jL, .ref jU, .ref jF, .ref e6, .ref jN, .ref jA, .ref e9])), (jT, .inr (8, [.ref t0, .int 0])), (t0, .inl (cC, 120, .inl (fun _ => 0))), (jR, .inr (4, [.ref jT, .ref r1, .ref r2, .int 0, .int 0, .int 0, .ref (ad 0), .ref (ad 0)])), (jL, .inr (7, [.ref l0, .int 0])), (l0, .inl (cL, 6, .inr (.inr (.inr (.inr (fun _ => none)))))), (jU, .inr (7, [.ref m0, .int 0])), (m0, .inl (cM, 8, .inr (.inr (.inr (.inr (fun _ => none)))))), (jF, .inr (2, [.ref f0, .ref f1, .ref f2, .ref f3, .ref f4, .int 0, .int 0, .int 0])), (f0, .inl (z0, 10, .inl (fun _ => 0))), (f1, .inl (z1, 10, .inl (fun _ => 0))), (f2, .inl (z2, 10, .inl (fun _ => 0))), (f4, .inl (z4, 4, .inl (fun _ => 0))), (jN, .inr (3, [.ref n0, .ref n1, .ref n2, .ref n3, .ref n4, .int 0])), (jA, .inr (0, [.ref a0, .ref a1, .ref a2, .ref a3, .int 0])), (g0, .inr (10, [.int 0, .ref b1, .ref b2, .ref b3, .ref b4, .ref b1, .int 0, .int 0, .int 0, .int 0, .int 0, .int 0, .int 0, .int 0, .int 0, .int 0, .ref (ad 5), .ref (ad 7), .int 0, .ref b19, .ref b20, .ref b21, .ref b22, .ref b23, .ref b24, .ref b25, .int 0, .int 0, .ref b28, .ref b29, .ref b30, .ref b31, .ref b32, .ref b33, .ref b34, .ref b35, .ref b36, .int 0, .int 0, .long 0, .ref b40, .ref b41, .ref b42, .ref b43, .ref b44, .int 0, .ref b46, .ref b47, .ref b48, .ref b49, .ref b50, .int 0])), (b1, .inl (y1, 120, .inl (fun _ => 0))), (b19, .inl (y19, 10, .inl (fun _ => 0))), (b20, .inl (y20, 10, .inl (fun _ => 0))), (b21, .inl (y21, 10, .inl (fun _ => 0))), (b22, .inl (y22, 10, .inl (fun _ => 0))), (b23, .inl (y23, 10, .inl (fun _ => 0))), (b24, .inl (y24, 4, .inl (fun _ => 0))), (b25, .inl (y25, 10, .inl (fun _ => 0))), (o0, .inl (cO, 1, .inr (.inl (fun _ => 0))))]) (hS : va_S (fun q : Nat => s.heap.size ≤ q) s.heap H locs) {ls : Array Slot} (hl : lv_has ls 7 [(4, .int 0), (3, .ref o0), (2, .ref g0), (1, .ref h0), (0, .ref b)]) (hlt : l.stackTraces = false) : W p l e room_1 s m #[Value.ref b] below meth c H locs 76 3048 (lw_Z below #[Value.ref b] s) (F0 m 1152 ls []) := by
  obtain ⟨hx, hb, hr, hml, hown, hts, hX, hbl, hlocks, hgv⟩ := id C0
  have hown : s.vm.findClass RL = some m.cls := hown
  have hA : ∀ q : Nat, s.heap.size ≤ q → (fun q : Nat => s.heap.size ≤ q) q := fun _ h => h
  have hbA : ¬ (fun q : Nat => s.heap.size ≤ q) b := Nat.not_le.mpr hbl
  refine lv_aload_n hx hb dL_law_1152 rfl (lv_at hl 3 rfl) ?_
  refine lv_aload_n hx hb dL_law_1153 rfl (lv_at hl 4 rfl) ?_
  refine lv_iload hx hb dL_law_1154 (lv_at hl 0 rfl) ?_
  refine lv_iconst (v := 1) hx hb dL_law_1156 (by decide) ?_
  refine lv_iadd hx hb dL_law_1157 ?_
  refine lv_topi (fun y_1 ey_1 => ?_)
  obtain rfl : y_1 = 1 := ey_1.trans (by decide)
  refine va_sld hx hb hX hbl hbA hS (by unfold vp_in; decide) dL_law_1158 ?_
  refine lv_aload_n hx hb dL_law_1159 rfl (lv_at hl 4 rfl) ?_
  refine lv_iload hx hb dL_law_1160 (lv_at hl 0 rfl) ?_
  refine lv_iconst (v := 2) hx hb dL_law_1162 (by decide) ?_
  refine lv_iadd hx hb dL_law_1163 ?_
  refine lv_topi (fun y_2 ey_2 => ?_)
  obtain rfl : y_2 = 2 := ey_2.trans (by decide)
  refine va_sld hx hb hX hbl hbA hS (by unfold vp_in; decide) dL_law_1164 ?_
  obtain ⟨z_3, ez_3⟩ : ∃ z : Int64, z = Int32.toInt64 (xs (Int32.toNatClampNeg 2)) := ⟨_, rfl⟩
  refine lv_i2l (v := z_3) hx hb dL_law_1165 ez_3.symm ?_
  refine lv_bipush (v := 32) hx hb dL_law_1166 (by decide) ?_
  refine lv_lshl (v := z_3 <<< (Int32.toInt64 32 &&& 63)) hx hb dL_law_1168 rfl ?_
  refine lv_topl (fun z_4 ez_4 => ?_)
  refine lv_aload_n hx hb dL_law_1169 rfl (lv_at hl 4 rfl) ?_
  refine lv_iload hx hb dL_law_1170 (lv_at hl 0 rfl) ?_
  refine lv_iconst (v := 3) hx hb dL_law_1172 (by decide) ?_
  refine lv_iadd hx hb dL_law_1173 ?_
  refine lv_topi (fun y_5 ey_5 => ?_)
  obtain rfl : y_5 = 3 := ey_5.trans (by decide)
  refine va_sld hx hb hX hbl hbA hS (by unfold vp_in; decide) dL_law_1174 ?_
  obtain ⟨z_6, ez_6⟩ : ∃ z : Int64, z = Int32.toInt64 (xs (Int32.toNatClampNeg 3)) := ⟨_, rfl⟩
  refine lv_i2l (v := z_6) hx hb dL_law_1175 ez_6.symm ?_
  refine lv_ldc2 (v := 4294967295) hx hb hown (hts (.constantLong RL 62 (4294967295)) tw_1577) dL_law_1176 ?_
  refine lv_land hx hb dL_law_1179 ?_
  refine lv_topl (fun z_7 ez_7 => ?_)
  refine lv_lor hx hb dL_law_1180 ?_
  refine lv_topl (fun z_8 ez_8 => ?_)
  refine lv_aload_n hx hb dL_law_1181 rfl (lv_at hl 4 rfl) ?_
  refine lv_iload hx hb dL_law_1182 (lv_at hl 0 rfl) ?_
  refine lv_iconst (v := 4) hx hb dL_law_1184 (by decide) ?_
  refine lv_iadd hx hb dL_law_1185 ?_
  refine lv_topi (fun y_9 ey_9 => ?_)
  obtain rfl : y_9 = 4 := ey_9.trans (by decide)
  refine va_sld hx hb hX hbl hbA hS (by unfold vp_in; decide) dL_law_1186 ?_
  have hPc := hP.sub (ws' := [(h0, .inr (9, [.ref jT, .ref jR, .ref e2, .ref jL, .ref jU, .ref jF, .ref e6, .ref jN, .ref jA, .ref e9])), (jL, .inr (7, [.ref l0, .int 0]))]) [0, 4] rfl
  have hKc := hK.sub (tys' := []) [] rfl
  refine vp_callSi (va_runV (As := [.int (xs (Int32.toNatClampNeg 1)), .long z_8, .int (xs (Int32.toNatClampNeg 4))]) (rest := []) ⟨hx, hb, hml, hown, hts⟩ (c_books9 l dC dI h0 jL (.ref jT : Value) (.ref jR : Value) (.ref e2 : Value) (.ref jU : Value) (.ref jF : Value) (.ref e6 : Value) (.ref jN : Value) (.ref jA : Value) (.ref e9 : Value) (.ref l0 : Value) (xs (Int32.toNatClampNeg 1)) z_8 (xs (Int32.toNatClampNeg 4))) (cwV 3 hts (kG (List.forall_mem_cons.mpr ⟨tw_846, (List.forall_mem_cons.mpr ⟨tw_847, (List.forall_mem_cons.mpr ⟨tw_848, (List.forall_mem_cons.mpr ⟨tw_75, (fun _ h => absurd h List.not_mem_nil)⟩)⟩)⟩)⟩) (by decide +kernel) in_w_c_books9 gw_c_books9) rfl rfl rfl (by decide +kernel) ⟨(Nat.le_of_ble_eq_true rfl), (Nat.le_of_ble_eq_true rfl)⟩) (kR_V kT_blind kT_give (va_recv hKc hPc (ci := 9) (q0 := 0) rfl rfl) hPc hKc) rfl rfl hl.1 rfl (lv_room (Nat.le_of_ble_eq_true rfl)) dL_law_1187 ⟨(Nat.le_of_ble_eq_true rfl), (Nat.le_of_ble_eq_true rfl)⟩).run (fun r_10 hw => ?_)
  obtain rfl : r_10 = (-1000) := hw
  refine lv_aload_n hx hb dL_law_1190 rfl (lv_at hl 2 rfl) ?_
  refine lv_aload_n hx hb dL_law_1191 rfl (lv_at hl 4 rfl) ?_
  refine lv_iload hx hb dL_law_1192 (lv_at hl 0 rfl) ?_
  refine lv_iconst (v := 1) hx hb dL_law_1194 (by decide) ?_
  refine lv_iadd hx hb dL_law_1195 ?_
  refine lv_topi (fun y_11 ey_11 => ?_)
  obtain rfl : y_11 = 1 := ey_11.trans (by decide)
  refine va_sld hx hb hX hbl hbA hS (by unfold vp_in; decide) dL_law_1196 ?_
  refine lv_aload_n hx hb dL_law_1197 rfl (lv_at hl 4 rfl) ?_
  refine lv_iload hx hb dL_law_1198 (lv_at hl 0 rfl) ?_
  refine lv_iconst (v := 2) hx hb dL_law_1200 (by decide) ?_
  refine lv_iadd hx hb dL_law_1201 ?_
  refine lv_topi (fun y_12 ey_12 => ?_)
  obtain rfl : y_12 = 2 := ey_12.trans (by decide)
  refine va_sld hx hb hX hbl hbA hS (by unfold vp_in; decide) dL_law_1202 ?_
  obtain ⟨z_13, ez_13⟩ : ∃ z : Int64, z = Int32.toInt64 (xs (Int32.toNatClampNeg 2)) := ⟨_, rfl⟩
  refine lv_i2l (v := z_13) hx hb dL_law_1203 ez_13.symm ?_
  refine lv_bipush (v := 32) hx hb dL_law_1204 (by decide) ?_
  refine lv_lshl (v := z_13 <<< (Int32.toInt64 32 &&& 63)) hx hb dL_law_1206 rfl ?_
  refine lv_topl (fun z_14 ez_14 => ?_)
  refine lv_aload_n hx hb dL_law_1207 rfl (lv_at hl 4 rfl) ?_
  refine lv_iload hx hb dL_law_1208 (lv_at hl 0 rfl) ?_
  refine lv_iconst (v := 3) hx hb dL_law_1210 (by decide) ?_
  refine lv_iadd hx hb dL_law_1211 ?_
  refine lv_topi (fun y_15 ey_15 => ?_)
  obtain rfl : y_15 = 3 := ey_15.trans (by decide)
  refine va_sld hx hb hX hbl hbA hS (by unfold vp_in; decide) dL_law_1212 ?_
  obtain ⟨z_16, ez_16⟩ : ∃ z : Int64, z = Int32.toInt64 (xs (Int32.toNatClampNeg 3)) := ⟨_, rfl⟩
  refine lv_i2l (v := z_16) hx hb dL_law_1213 ez_16.symm ?_
  refine lv_ldc2 (v := 4294967295) hx hb hown (hts (.constantLong RL 62 (4294967295)) tw_1577) dL_law_1214 ?_
  refine lv_land hx hb dL_law_1217 ?_
  refine lv_topl (fun z_17 ez_17 => ?_)
  refine lv_lor hx hb dL_law_1218 ?_
  refine lv_topl (fun z_18 ez_18 => ?_)
  refine lv_aload_n hx hb dL_law_1219 rfl (lv_at hl 4 rfl) ?_
  refine lv_iload hx hb dL_law_1220 (lv_at hl 0 rfl) ?_
  refine lv_iconst (v := 4) hx hb dL_law_1222 (by decide) ?_
  refine lv_iadd hx hb dL_law_1223 ?_
  refine lv_topi (fun y_19 ey_19 => ?_)
  obtain rfl : y_19 = 4 := ey_19.trans (by decide)
  refine va_sld hx hb hX hbl hbA hS (by unfold vp_in; decide) dL_law_1224 ?_
  have hPc := hP.sub (ws' := [(g0, .inr (10, [.int 0, .ref b1, .ref b2, .ref b3, .ref b4, .ref b1, .int 0, .int 0, .int 0, .int 0, .int 0, .int 0, .int 0, .int 0, .int 0, .int 0, .ref (ad 5), .ref (ad 7), .int 0, .ref b19, .ref b20, .ref b21, .ref b22, .ref b23, .ref b24, .ref b25, .int 0, .int 0, .ref b28, .ref b29, .ref b30, .ref b31, .ref b32, .ref b33, .ref b34, .ref b35, .ref b36, .int 0, .int 0, .long 0, .ref b40, .ref b41, .ref b42, .ref b43, .ref b44, .int 0, .ref b46, .ref b47, .ref b48, .ref b49, .ref b50, .int 0]))]) [15] rfl
  have hKc := hK.sub (tys' := []) [] rfl
  have hDc := hD.sub (ws' := [(g0, .inr (10, [.int 0, .ref b1, .ref b2, .ref b3, .ref b4, .ref b1, .int 0, .int 0, .int 0, .int 0, .int 0, .int 0, .int 0, .int 0, .int 0, .int 0, .ref (ad 5), .ref (ad 7), .int 0, .ref b19, .ref b20, .ref b21, .ref b22, .ref b23, .ref b24, .ref b25, .int 0, .int 0, .ref b28, .ref b29, .ref b30, .ref b31, .ref b32, .ref b33, .ref b34, .ref b35, .ref b36, .int 0, .int 0, .long 0, .ref b40, .ref b41, .ref b42, .ref b43, .ref b44, .int 0, .ref b46, .ref b47, .ref b48, .ref b49, .ref b50, .int 0]))]) [15] (by decide) rfl
  have hFc := va_free (wc := [(g0, .inr (10, [.int 0, .ref b1, .ref b2, .ref b3, .ref b4, .ref b1, .int 0, .int 0, .int 0, .int 0, .int 0, .int 0, .int 0, .int 0, .int 0, .int 0, .ref (ad 5), .ref (ad 7), .int 0, .ref b19, .ref b20, .ref b21, .ref b22, .ref b23, .ref b24, .ref b25, .int 0, .int 0, .ref b28, .ref b29, .ref b30, .ref b31, .ref b32, .ref b33, .ref b34, .ref b35, .ref b36, .int 0, .int 0, .long 0, .ref b40, .ref b41, .ref b42, .ref b43, .ref b44, .int 0, .ref b46, .ref b47, .ref b48, .ref b49, .ref b50, .int 0]))]) hD hS hA [15] rfl
  refine va_calli (va_runV (As := [.int (xs (Int32.toNatClampNeg 1)), .long z_18, .int (xs (Int32.toNatClampNeg 4))]) (rest := [.int (-1000)]) ⟨hx, hb, hml, hown, hts⟩ (c_books10 l dC dI g0 (.int 0 : Value) (.ref b1 : Value) (.ref b2 : Value) (.ref b3 : Value) (.ref b4 : Value) (.ref b1 : Value) (.int 0 : Value) (.int 0 : Value) (.int 0 : Value) (.int 0 : Value) (.int 0 : Value) (.int 0 : Value) (.int 0 : Value) (.int 0 : Value) (.int 0 : Value) (.ref (ad 5) : Value) (.ref (ad 7) : Value) (.int 0 : Value) (.ref b19 : Value) (.ref b20 : Value) (.ref b21 : Value) (.ref b22 : Value) (.ref b23 : Value) (.ref b24 : Value) (.ref b25 : Value) (.int 0 : Value) (.int 0 : Value) (.ref b28 : Value) (.ref b29 : Value) (.ref b30 : Value) (.ref b31 : Value) (.ref b32 : Value) (.ref b33 : Value) (.ref b34 : Value) (.ref b35 : Value) (.ref b36 : Value) (.int 0 : Value) (.int 0 : Value) (.long 0 : Value) (.ref b40 : Value) (.ref b41 : Value) (.ref b42 : Value) (.ref b43 : Value) (.ref b44 : Value) (.int 0 : Value) (.ref b46 : Value) (.ref b47 : Value) (.ref b48 : Value) (.ref b49 : Value) (.ref b50 : Value) (.int 0 : Value) (xs (Int32.toNatClampNeg 1)) z_18 (xs (Int32.toNatClampNeg 4)) H.size) (cwV 3 hts (kG (List.forall_mem_cons.mpr ⟨tw_1491, (List.forall_mem_cons.mpr ⟨tw_1492, (List.forall_mem_cons.mpr ⟨tw_1493, (List.forall_mem_cons.mpr ⟨tw_85, (fun _ h => absurd h List.not_mem_nil)⟩)⟩)⟩)⟩) (by decide +kernel) in_w_c_books10 gw_c_books10) rfl rfl rfl (by decide +kernel) ⟨(Nat.le_of_ble_eq_true rfl), (Nat.le_of_ble_eq_true rfl)⟩) (kW_V kT_blind kT_give (va_recv hKc hPc (ci := 10) (q0 := 0) rfl rfl) hPc hKc hDc) rfl rfl hl.1 rfl (lv_room (Nat.le_of_ble_eq_true rfl)) dL_law_1225 ⟨(Nat.le_of_ble_eq_true rfl), (Nat.le_of_ble_eq_true rfl)⟩) hS (fun q _ h => hFc q h) hFc (fun r_20 u t H1 locs ht hvm hw hB hz1 hk1 hS => ?_)
  have hP1 : va_P (dC, dI) vwCl [] H1 := fun k q h => by simp at h
  have hD1 : va_D (va_A [(g0, .inr (10, [.int 0, .ref b1, .ref b2, .ref b3, .ref b4, .ref b1, .int 0, .int 0, .int 0, .int 0, .int 0, .int 0, .int 0, .int 0, .int 0, .int 0, .ref (ad 5), .ref (ad 7), .int 0, .ref b19, .ref b20, .ref b21, .ref b22, .ref b23, .ref b24, .ref b25, .int 0, .int 0, .ref b28, .ref b29, .ref b30, .ref b31, .ref b32, .ref b33, .ref b34, .ref b35, .ref b36, .int 0, .int 0, .long 0, .ref b40, .ref b41, .ref b42, .ref b43, .ref b44, .int 0, .ref b46, .ref b47, .ref b48, .ref b49, .ref b50, .int 0]))] H.size) [] := ⟨fun i j p q h => by simp at h, fun k q h => by simp at h⟩
  try dsimp only at hw
  obtain ⟨hP, hD⟩ := va_join (wr := [(h0, .inr (9, [.ref jT, .ref jR, .ref e2, .ref jL, .ref jU, .ref jF, .ref e6, .ref jN, .ref jA, .ref e9])), (jT, .inr (8, [.ref t0, .int 0])), (t0, .inl (cC, 120, .inl (fun _ => 0))), (jR, .inr (4, [.ref jT, .ref r1, .ref r2, .int 0, .int 0, .int 0, .ref (ad 0), .ref (ad 0)])), (jL, .inr (7, [.ref l0, .int 0])), (l0, .inl (cL, 6, .inr (.inr (.inr (.inr (fun _ => none)))))), (jU, .inr (7, [.ref m0, .int 0])), (m0, .inl (cM, 8, .inr (.inr (.inr (.inr (fun _ => none)))))), (jF, .inr (2, [.ref f0, .ref f1, .ref f2, .ref f3, .ref f4, .int 0, .int 0, .int 0])), (f0, .inl (z0, 10, .inl (fun _ => 0))), (f1, .inl (z1, 10, .inl (fun _ => 0))), (f2, .inl (z2, 10, .inl (fun _ => 0))), (f4, .inl (z4, 4, .inl (fun _ => 0))), (jN, .inr (3, [.ref n0, .ref n1, .ref n2, .ref n3, .ref n4, .int 0])), (jA, .inr (0, [.ref a0, .ref a1, .ref a2, .ref a3, .int 0])), (b1, .inl (y1, 120, .inl (fun _ => 0))), (b19, .inl (y19, 10, .inl (fun _ => 0))), (b20, .inl (y20, 10, .inl (fun _ => 0))), (b21, .inl (y21, 10, .inl (fun _ => 0))), (b22, .inl (y22, 10, .inl (fun _ => 0))), (b23, .inl (y23, 10, .inl (fun _ => 0))), (b24, .inl (y24, 4, .inl (fun _ => 0))), (b25, .inl (y25, 10, .inl (fun _ => 0))), (o0, .inl (cO, 1, .inr (.inl (fun _ => 0))))]) (w1 := []) hP hD [15] [0, 1, 2, 3, 4, 5, 6, 7, 8, 9, 10, 11, 12, 13, 14, 16, 17, 18, 19, 20, 21, 22, 23, 24] rfl rfl (by decide) (by decide) hk1 hFc hP1 hD1
  generalize H1 = H at hP hS ⊢
  have hP : va_P (dC, dI) vwCl [(h0, .inr (9, [.ref jT, .ref jR, .ref e2, .ref jL, .ref jU, .ref jF, .ref e6, .ref jN, .ref jA, .ref e9])), (jT, .inr (8, [.ref t0, .int 0])), (t0, .inl (cC, 120, .inl (fun _ => 0))), (jR, .inr (4, [.ref jT, .ref r1, .ref r2, .int 0, .int 0, .int 0, .ref (ad 0), .ref (ad 0)])), (jL, .inr (7, [.ref l0, .int 0])), (l0, .inl (cL, 6, .inr (.inr (.inr (.inr (fun _ => none)))))), (jU, .inr (7, [.ref m0, .int 0])), (m0, .inl (cM, 8, .inr (.inr (.inr (.inr (fun _ => none)))))), (jF, .inr (2, [.ref f0, .ref f1, .ref f2, .ref f3, .ref f4, .int 0, .int 0, .int 0])), (f0, .inl (z0, 10, .inl (fun _ => 0))), (f1, .inl (z1, 10, .inl (fun _ => 0))), (f2, .inl (z2, 10, .inl (fun _ => 0))), (f4, .inl (z4, 4, .inl (fun _ => 0))), (jN, .inr (3, [.ref n0, .ref n1, .ref n2, .ref n3, .ref n4, .int 0])), (jA, .inr (0, [.ref a0, .ref a1, .ref a2, .ref a3, .int 0])), (b1, .inl (y1, 120, .inl (fun _ => 0))), (b19, .inl (y19, 10, .inl (fun _ => 0))), (b20, .inl (y20, 10, .inl (fun _ => 0))), (b21, .inl (y21, 10, .inl (fun _ => 0))), (b22, .inl (y22, 10, .inl (fun _ => 0))), (b23, .inl (y23, 10, .inl (fun _ => 0))), (b24, .inl (y24, 4, .inl (fun _ => 0))), (b25, .inl (y25, 10, .inl (fun _ => 0))), (o0, .inl (cO, 1, .inr (.inl (fun _ => 0))))] H := hP
  have hD : va_D (fun q : Nat => s.heap.size ≤ q) [(h0, .inr (9, [.ref jT, .ref jR, .ref e2, .ref jL, .ref jU, .ref jF, .ref e6, .ref jN, .ref jA, .ref e9])), (jT, .inr (8, [.ref t0, .int 0])), (t0, .inl (cC, 120, .inl (fun _ => 0))), (jR, .inr (4, [.ref jT, .ref r1, .ref r2, .int 0, .int 0, .int 0, .ref (ad 0), .ref (ad 0)])), (jL, .inr (7, [.ref l0, .int 0])), (l0, .inl (cL, 6, .inr (.inr (.inr (.inr (fun _ => none)))))), (jU, .inr (7, [.ref m0, .int 0])), (m0, .inl (cM, 8, .inr (.inr (.inr (.inr (fun _ => none)))))), (jF, .inr (2, [.ref f0, .ref f1, .ref f2, .ref f3, .ref f4, .int 0, .int 0, .int 0])), (f0, .inl (z0, 10, .inl (fun _ => 0))), (f1, .inl (z1, 10, .inl (fun _ => 0))), (f2, .inl (z2, 10, .inl (fun _ => 0))), (f4, .inl (z4, 4, .inl (fun _ => 0))), (jN, .inr (3, [.ref n0, .ref n1, .ref n2, .ref n3, .ref n4, .int 0])), (jA, .inr (0, [.ref a0, .ref a1, .ref a2, .ref a3, .int 0])), (b1, .inl (y1, 120, .inl (fun _ => 0))), (b19, .inl (y19, 10, .inl (fun _ => 0))), (b20, .inl (y20, 10, .inl (fun _ => 0))), (b21, .inl (y21, 10, .inl (fun _ => 0))), (b22, .inl (y22, 10, .inl (fun _ => 0))), (b23, .inl (y23, 10, .inl (fun _ => 0))), (b24, .inl (y24, 4, .inl (fun _ => 0))), (b25, .inl (y25, 10, .inl (fun _ => 0))), (o0, .inl (cO, 1, .inr (.inl (fun _ => 0))))] := hD
  obtain rfl : r_20 = (-1000) := hw
  refine lv_icmp_eq (tgt := 1792) hx hb dL_law_1228 (by decide) (fun c_21 => ?_) (fun c_21 => absurd (by decide) c_21)
  exact law_tail C0 hS (Nat.le_of_ble_eq_true rfl) (Nat.le_of_ble_eq_true rfl) (lv_sub hl [0, 1, 2, 3, 4] rfl)

theorem dL_law_1233 : decode cL_law 1233 = .ok (.aload_n 1, 1) := by decide +kernel
theorem dL_law_1234 : decode cL_law 1234 = .ok (.aload_n 0, 1) := by decide +kernel
theorem dL_law_1235 : decode cL_law 1235 = .ok (.iload 4, 2) := by decide +kernel
theorem dL_law_1237 : decode cL_law 1237 = .ok (.iconst 1, 1) := by decide +kernel
theorem dL_law_1238 : decode cL_law 1238 = .ok (.iadd, 1) := by decide +kernel
theorem dL_law_1239 : decode cL_law 1239 = .ok (.iaload, 1) := by decide +kernel
theorem dL_law_1240 : decode cL_law 1240 = .ok (.aload_n 0, 1) := by decide +kernel
theorem dL_law_1241 : decode cL_law 1241 = .ok (.iload 4, 2) := by decide +kernel
theorem dL_law_1243 : decode cL_law 1243 = .ok (.iconst 2, 1) := by decide +kernel
theorem dL_law_1244 : decode cL_law 1244 = .ok (.iadd, 1) := by decide +kernel
theorem dL_law_1245 : decode cL_law 1245 = .ok (.iaload, 1) := by decide +kernel
theorem dL_law_1246 : decode cL_law 1246 = .ok (.i2l, 1) := by decide +kernel
theorem dL_law_1247 : decode cL_law 1247 = .ok (.bipush 32, 2) := by decide +kernel
theorem dL_law_1249 : decode cL_law 1249 = .ok (.lshl, 1) := by decide +kernel
theorem dL_law_1250 : decode cL_law 1250 = .ok (.aload_n 0, 1) := by decide +kernel
theorem dL_law_1251 : decode cL_law 1251 = .ok (.iload 4, 2) := by decide +kernel
theorem dL_law_1253 : decode cL_law 1253 = .ok (.iconst 3, 1) := by decide +kernel
theorem dL_law_1254 : decode cL_law 1254 = .ok (.iadd, 1) := by decide +kernel
theorem dL_law_1255 : decode cL_law 1255 = .ok (.iaload, 1) := by decide +kernel
theorem dL_law_1256 : decode cL_law 1256 = .ok (.i2l, 1) := by decide +kernel
theorem dL_law_1257 : decode cL_law 1257 = .ok (.ldc2_w 62, 3) := by decide +kernel
theorem dL_law_1260 : decode cL_law 1260 = .ok (.land, 1) := by decide +kernel
theorem dL_law_1261 : decode cL_law 1261 = .ok (.lor, 1) := by decide +kernel
theorem dL_law_1262 : decode cL_law 1262 = .ok (.aload_n 0, 1) := by decide +kernel
theorem dL_law_1263 : decode cL_law 1263 = .ok (.iload 4, 2) := by decide +kernel
theorem dL_law_1265 : decode cL_law 1265 = .ok (.iconst 4, 1) := by decide +kernel
theorem dL_law_1266 : decode cL_law 1266 = .ok (.iadd, 1) := by decide +kernel
theorem dL_law_1267 : decode cL_law 1267 = .ok (.iaload, 1) := by decide +kernel
theorem dL_law_1268 : decode cL_law 1268 = .ok (.aload_n 0, 1) := by decide +kernel
theorem dL_law_1269 : decode cL_law 1269 = .ok (.iload 4, 2) := by decide +kernel
theorem dL_law_1271 : decode cL_law 1271 = .ok (.iconst 5, 1) := by decide +kernel
theorem dL_law_1272 : decode cL_law 1272 = .ok (.iadd, 1) := by decide +kernel
theorem dL_law_1273 : decode cL_law 1273 = .ok (.iaload, 1) := by decide +kernel
theorem dL_law_1274 : decode cL_law 1274 = .ok (.invokevirtual 100, 3) := by decide +kernel
theorem dL_law_1277 : decode cL_law 1277 = .ok (.aload_n 2, 1) := by decide +kernel
theorem dL_law_1278 : decode cL_law 1278 = .ok (.aload_n 0, 1) := by decide +kernel
theorem dL_law_1279 : decode cL_law 1279 = .ok (.iload 4, 2) := by decide +kernel
theorem dL_law_1281 : decode cL_law 1281 = .ok (.iconst 1, 1) := by decide +kernel
theorem dL_law_1282 : decode cL_law 1282 = .ok (.iadd, 1) := by decide +kernel
theorem dL_law_1283 : decode cL_law 1283 = .ok (.iaload, 1) := by decide +kernel
theorem dL_law_1284 : decode cL_law 1284 = .ok (.aload_n 0, 1) := by decide +kernel
theorem dL_law_1285 : decode cL_law 1285 = .ok (.iload 4, 2) := by decide +kernel
theorem dL_law_1287 : decode cL_law 1287 = .ok (.iconst 2, 1) := by decide +kernel
theorem dL_law_1288 : decode cL_law 1288 = .ok (.iadd, 1) := by decide +kernel
theorem dL_law_1289 : decode cL_law 1289 = .ok (.iaload, 1) := by decide +kernel
theorem dL_law_1290 : decode cL_law 1290 = .ok (.i2l, 1) := by decide +kernel
theorem dL_law_1291 : decode cL_law 1291 = .ok (.bipush 32, 2) := by decide +kernel
theorem dL_law_1293 : decode cL_law 1293 = .ok (.lshl, 1) := by decide +kernel
theorem dL_law_1294 : decode cL_law 1294 = .ok (.aload_n 0, 1) := by decide +kernel
theorem dL_law_1295 : decode cL_law 1295 = .ok (.iload 4, 2) := by decide +kernel
theorem dL_law_1297 : decode cL_law 1297 = .ok (.iconst 3, 1) := by decide +kernel
theorem dL_law_1298 : decode cL_law 1298 = .ok (.iadd, 1) := by decide +kernel
theorem dL_law_1299 : decode cL_law 1299 = .ok (.iaload, 1) := by decide +kernel
theorem dL_law_1300 : decode cL_law 1300 = .ok (.i2l, 1) := by decide +kernel
theorem dL_law_1301 : decode cL_law 1301 = .ok (.ldc2_w 62, 3) := by decide +kernel
theorem dL_law_1304 : decode cL_law 1304 = .ok (.land, 1) := by decide +kernel
theorem dL_law_1305 : decode cL_law 1305 = .ok (.lor, 1) := by decide +kernel
theorem dL_law_1306 : decode cL_law 1306 = .ok (.aload_n 0, 1) := by decide +kernel
theorem dL_law_1307 : decode cL_law 1307 = .ok (.iload 4, 2) := by decide +kernel
theorem dL_law_1309 : decode cL_law 1309 = .ok (.iconst 4, 1) := by decide +kernel
theorem dL_law_1310 : decode cL_law 1310 = .ok (.iadd, 1) := by decide +kernel
theorem dL_law_1311 : decode cL_law 1311 = .ok (.iaload, 1) := by decide +kernel
theorem dL_law_1312 : decode cL_law 1312 = .ok (.aload_n 0, 1) := by decide +kernel
theorem dL_law_1313 : decode cL_law 1313 = .ok (.iload 4, 2) := by decide +kernel
theorem dL_law_1315 : decode cL_law 1315 = .ok (.iconst 5, 1) := by decide +kernel
theorem dL_law_1316 : decode cL_law 1316 = .ok (.iadd, 1) := by decide +kernel
theorem dL_law_1317 : decode cL_law 1317 = .ok (.iaload, 1) := by decide +kernel
theorem dL_law_1318 : decode cL_law 1318 = .ok (.invokevirtual 104, 3) := by decide +kernel
theorem dL_law_1321 : decode cL_law 1321 = .ok (.lcmp, 1) := by decide +kernel
theorem dL_law_1322 : decode cL_law 1322 = .ok (.ifCond .eq 470, 3) := by decide +kernel
set_option maxHeartbeats 4000000 in
set_option maxRecDepth 100000 in
theorem law_16 {p : Program} {l : Launch} {e : Env} {s : State} {m : MethodId} {below : List Frame} {meth : Method} {c : Code} {b : Nat} {xs : Nat → Int32} {dC : Nat → ClassId} {dI : Nat → Nat → Nat} {ad : Nat → Nat} {h0 : Nat} {g0 : Nat} {o0 : Nat} {jT : Nat} {jR : Nat} {e2 : Nat} {jL : Nat} {jU : Nat} {jF : Nat} {e6 : Nat} {jN : Nat} {jA : Nat} {e9 : Nat} {t0 : Nat} {r1 : Nat} {r2 : Nat} {l0 : Nat} {m0 : Nat} {f0 : Nat} {f1 : Nat} {f2 : Nat} {f3 : Nat} {f4 : Nat} {n0 : Nat} {n1 : Nat} {n2 : Nat} {n3 : Nat} {n4 : Nat} {a0 : Nat} {a1 : Nat} {a2 : Nat} {a3 : Nat} {cC : ClassId} {cL : ClassId} {cM : ClassId} {z0 : ClassId} {z1 : ClassId} {z2 : ClassId} {z4 : ClassId} {b1 : Nat} {b2 : Nat} {b3 : Nat} {b4 : Nat} {b19 : Nat} {b20 : Nat} {b21 : Nat} {b22 : Nat} {b23 : Nat} {b24 : Nat} {b25 : Nat} {b28 : Nat} {b29 : Nat} {b30 : Nat} {b31 : Nat} {b32 : Nat} {b33 : Nat} {b34 : Nat} {b35 : Nat} {b36 : Nat} {b40 : Nat} {b41 : Nat} {b42 : Nat} {b43 : Nat} {b44 : Nat} {b46 : Nat} {b47 : Nat} {b48 : Nat} {b49 : Nat} {b50 : Nat} {y1 : ClassId} {y19 : ClassId} {y20 : ClassId} {y21 : ClassId} {y22 : ClassId} {y23 : ClassId} {y24 : ClassId} {y25 : ClassId} {cO : ClassId} (C0 : lw_At p s m meth c b 7 xs) (hXX : kLaw ad s) {H : Heap} {locs : List Loc} (hK : va_K (dC, dI) vwCl [(cC, .char), (cL, .object RX6), (cM, .object RX6), (z0, .int), (z1, .int), (z2, .int), (z4, .int), (y1, .byte), (y19, .int), (y20, .int), (y21, .int), (y22, .int), (y23, .int), (y24, .int), (y25, .boolean), (cO, .long)] s) (hP : va_P (dC, dI) vwCl [(h0, .inr (9, [.ref jT, .ref jR, .ref e2, .ref jL, .ref jU, .ref jF, .ref e6, .ref jN, .ref jA, .ref e9])), (jT, .inr (8, [.ref t0, .int 0])), (t0, .inl (cC, 120, .inl (fun _ => 0))), (jR, .inr (4, [.ref jT, .ref r1, .ref r2, .int 0, .int 0, .int 0, .ref (ad 0), .ref (ad 0)])), (jL, .inr (7, [.ref l0, .int 0])), (l0, .inl (cL, 6, .inr (.inr (.inr (.inr (fun _ => none)))))), (jU, .inr (7, [.ref m0, .int 0])), (m0, .inl (cM, 8, .inr (.inr (.inr (.inr (fun _ => none)))))), (jF, .inr (2, [.ref f0, .ref f1, .ref f2, .ref f3, .ref f4, .int 0, .int 0, .int 0])), (f0, .inl (z0, 10, .inl (fun _ => 0))), (f1, .inl (z1, 10, .inl (fun _ => 0))), (f2, .inl (z2, 10, .inl (fun _ => 0))), (f4, .inl (z4, 4, .inl (fun _ => 0))), (jN, .inr (3, [.ref n0, .ref n1, .ref n2, .ref n3, .ref n4, .int 0])), (jA, .inr (0, [.ref a0, .ref a1, .ref a2, .ref a3, .int 0])), (g0, .inr (10, [.int 0, .ref b1, .ref b2, .ref b3, .ref b4, .ref b1, .int 0, .int 0, .int 0, .int 0, .int 0, .int 0, .int 0, .int 0, .int 0, .int 0, .ref (ad 5), .ref (ad 7), .int 0, .ref b19, .ref b20, .ref b21, .ref b22, .ref b23, .ref b24, .ref b25, .int 0, .int 0, .ref b28, .ref b29, .ref b30, .ref b31, .ref b32, .ref b33, .ref b34, .ref b35, .ref b36, .int 0, .int 0, .long 0, .ref b40, .ref b41, .ref b42, .ref b43, .ref b44, .int 0, .ref b46, .ref b47, .ref b48, .ref b49, .ref b50, .int 0])), (b1, .inl (y1, 120, .inl (fun _ => 0))), (b19, .inl (y19, 10, .inl (fun _ => 0))), (b20, .inl (y20, 10, .inl (fun _ => 0))), (b21, .inl (y21, 10, .inl (fun _ => 0))), (b22, .inl (y22, 10, .inl (fun _ => 0))), (b23, .inl (y23, 10, .inl (fun _ => 0))), (b24, .inl (y24, 4, .inl (fun _ => 0))), (b25, .inl (y25, 10, .inl (fun _ => 0))), (o0, .inl (cO, 1, .inr (.inl (fun _ => 0))))] H) (hD : va_D (fun q : Nat => s.heap.size ≤ q) [(h0, .inr (9, [.ref jT, .ref jR, .ref e2, .ref jL, .ref jU, .ref jF, .ref e6, .ref jN, .ref jA, .ref e9])), (jT, .inr (8, [.ref t0, .int 0])), (t0, .inl (cC, 120, .inl (fun _ => 0))), (jR, .inr (4, [.ref jT, .ref r1, .ref r2, .int 0, .int 0, .int 0, .ref (ad 0), .ref (ad 0)])), (jL, .inr (7, [.ref l0, .int 0])), (l0, .inl (cL, 6, .inr (.inr (.inr (.inr (fun _ => none)))))), (jU, .inr (7, [.ref m0, .int 0])), (m0, .inl (cM, 8, .inr (.inr (.inr (.inr (fun _ => none)))))), (jF, .inr (2, [.ref f0, .ref f1, .ref f2, .ref f3, .ref f4, .int 0, .int 0, .int 0])), (f0, .inl (z0, 10, .inl (fun _ => 0))), (f1, .inl (z1, 10, .inl (fun _ => 0))), (f2, .inl (z2, 10, .inl (fun _ => 0))), (f4, .inl (z4, 4, .inl (fun _ => 0))), (jN, .inr (3, [.ref n0, .ref n1, .ref n2, .ref n3, .ref n4, .int 0])), (jA, .inr (0, [.ref a0, .ref a1, .ref a2, .ref a3, .int 0])), (g0, .inr (10, [.int 0, .ref b1, .ref b2, .ref b3, .ref b4, .ref b1, .int 0, .int 0, .int 0, .int 0, .int 0, .int 0, .int 0, .int 0, .int 0, .int 0, .ref (ad 5), .ref (ad 7), .int 0, .ref b19, .ref b20, .ref b21, .ref b22, .ref b23, .ref b24, .ref b25, .int 0, .int 0, .ref b28, .ref b29, .ref b30, .ref b31, .ref b32, .ref b33, .ref b34, .ref b35, .ref b36, .int 0, .int 0, .long 0, .ref b40, .ref b41, .ref b42, .ref b43, .ref b44, .int 0, .ref b46, .ref b47, .ref b48, .ref b49, .ref b50, .int 0])), (b1, .inl (y1, 120, .inl (fun _ => 0))), (b19, .inl (y19, 10, .inl (fun _ => 0))), (b20, .inl (y20, 10, .inl (fun _ => 0))), (b21, .inl (y21, 10, .inl (fun _ => 0))), (b22, .inl (y22, 10, .inl (fun _ => 0))), (b23, .inl (y23, 10, .inl (fun _ => 0))), (b24, .inl (y24, 4, .inl (fun _ => 0))), (b25, .inl (y25, 10, .inl (fun _ => 0))), (o0, .inl (cO, 1, .inr (.inl (fun _ => 0))))]) (hS : va_S (fun q : Nat => s.heap.size ≤ q) s.heap H locs) {ls : Array Slot} (hl : lv_has ls 7 [(4, .int 0), (3, .ref o0), (2, .ref g0), (1, .ref h0), (0, .ref b)]) (hlt : l.stackTraces = false) : W p l e room_1 s m #[Value.ref b] below meth c H locs 76 3048 (lw_Z below #[Value.ref b] s) (F0 m 1233 ls []) := by
  obtain ⟨hx, hb, hr, hml, hown, hts, hX, hbl, hlocks, hgv⟩ := id C0
  have hown : s.vm.findClass RL = some m.cls := hown
  have hA : ∀ q : Nat, s.heap.size ≤ q → (fun q : Nat => s.heap.size ≤ q) q := fun _ h => h
  have hbA : ¬ (fun q : Nat => s.heap.size ≤ q) b := Nat.not_le.mpr hbl
  refine lv_aload_n hx hb dL_law_1233 rfl (lv_at hl 3 rfl) ?_
  refine lv_aload_n hx hb dL_law_1234 rfl (lv_at hl 4 rfl) ?_
  refine lv_iload hx hb dL_law_1235 (lv_at hl 0 rfl) ?_
  refine lv_iconst (v := 1) hx hb dL_law_1237 (by decide) ?_
  refine lv_iadd hx hb dL_law_1238 ?_
  refine lv_topi (fun y_1 ey_1 => ?_)
  obtain rfl : y_1 = 1 := ey_1.trans (by decide)
  refine va_sld hx hb hX hbl hbA hS (by unfold vp_in; decide) dL_law_1239 ?_
  refine lv_aload_n hx hb dL_law_1240 rfl (lv_at hl 4 rfl) ?_
  refine lv_iload hx hb dL_law_1241 (lv_at hl 0 rfl) ?_
  refine lv_iconst (v := 2) hx hb dL_law_1243 (by decide) ?_
  refine lv_iadd hx hb dL_law_1244 ?_
  refine lv_topi (fun y_2 ey_2 => ?_)
  obtain rfl : y_2 = 2 := ey_2.trans (by decide)
  refine va_sld hx hb hX hbl hbA hS (by unfold vp_in; decide) dL_law_1245 ?_
  obtain ⟨z_3, ez_3⟩ : ∃ z : Int64, z = Int32.toInt64 (xs (Int32.toNatClampNeg 2)) := ⟨_, rfl⟩
  refine lv_i2l (v := z_3) hx hb dL_law_1246 ez_3.symm ?_
  refine lv_bipush (v := 32) hx hb dL_law_1247 (by decide) ?_
  refine lv_lshl (v := z_3 <<< (Int32.toInt64 32 &&& 63)) hx hb dL_law_1249 rfl ?_
  refine lv_topl (fun z_4 ez_4 => ?_)
  refine lv_aload_n hx hb dL_law_1250 rfl (lv_at hl 4 rfl) ?_
  refine lv_iload hx hb dL_law_1251 (lv_at hl 0 rfl) ?_
  refine lv_iconst (v := 3) hx hb dL_law_1253 (by decide) ?_
  refine lv_iadd hx hb dL_law_1254 ?_
  refine lv_topi (fun y_5 ey_5 => ?_)
  obtain rfl : y_5 = 3 := ey_5.trans (by decide)
  refine va_sld hx hb hX hbl hbA hS (by unfold vp_in; decide) dL_law_1255 ?_
  obtain ⟨z_6, ez_6⟩ : ∃ z : Int64, z = Int32.toInt64 (xs (Int32.toNatClampNeg 3)) := ⟨_, rfl⟩
  refine lv_i2l (v := z_6) hx hb dL_law_1256 ez_6.symm ?_
  refine lv_ldc2 (v := 4294967295) hx hb hown (hts (.constantLong RL 62 (4294967295)) tw_1577) dL_law_1257 ?_
  refine lv_land hx hb dL_law_1260 ?_
  refine lv_topl (fun z_7 ez_7 => ?_)
  refine lv_lor hx hb dL_law_1261 ?_
  refine lv_topl (fun z_8 ez_8 => ?_)
  refine lv_aload_n hx hb dL_law_1262 rfl (lv_at hl 4 rfl) ?_
  refine lv_iload hx hb dL_law_1263 (lv_at hl 0 rfl) ?_
  refine lv_iconst (v := 4) hx hb dL_law_1265 (by decide) ?_
  refine lv_iadd hx hb dL_law_1266 ?_
  refine lv_topi (fun y_9 ey_9 => ?_)
  obtain rfl : y_9 = 4 := ey_9.trans (by decide)
  refine va_sld hx hb hX hbl hbA hS (by unfold vp_in; decide) dL_law_1267 ?_
  refine lv_aload_n hx hb dL_law_1268 rfl (lv_at hl 4 rfl) ?_
  refine lv_iload hx hb dL_law_1269 (lv_at hl 0 rfl) ?_
  refine lv_iconst (v := 5) hx hb dL_law_1271 (by decide) ?_
  refine lv_iadd hx hb dL_law_1272 ?_
  refine lv_topi (fun y_10 ey_10 => ?_)
  obtain rfl : y_10 = 5 := ey_10.trans (by decide)
  refine va_sld hx hb hX hbl hbA hS (by unfold vp_in; decide) dL_law_1273 ?_
  have hPc := hP.sub (ws' := [(h0, .inr (9, [.ref jT, .ref jR, .ref e2, .ref jL, .ref jU, .ref jF, .ref e6, .ref jN, .ref jA, .ref e9])), (jL, .inr (7, [.ref l0, .int 0]))]) [0, 4] rfl
  have hKc := hK.sub (tys' := []) [] rfl
  refine vp_callSl (va_runV (As := [.int (xs (Int32.toNatClampNeg 1)), .long z_8, .int (xs (Int32.toNatClampNeg 4)), .int (xs (Int32.toNatClampNeg 5))]) (rest := []) ⟨hx, hb, hml, hown, hts⟩ (c_odds9 l dC dI h0 jL (.ref jT : Value) (.ref jR : Value) (.ref e2 : Value) (.ref jU : Value) (.ref jF : Value) (.ref e6 : Value) (.ref jN : Value) (.ref jA : Value) (.ref e9 : Value) (.ref l0 : Value) (xs (Int32.toNatClampNeg 1)) z_8 (xs (Int32.toNatClampNeg 4)) (xs (Int32.toNatClampNeg 5))) (cwV 4 hts (kG (List.forall_mem_cons.mpr ⟨tw_858, (List.forall_mem_cons.mpr ⟨tw_859, (List.forall_mem_cons.mpr ⟨tw_860, (List.forall_mem_cons.mpr ⟨tw_75, (fun _ h => absurd h List.not_mem_nil)⟩)⟩)⟩)⟩) (by decide +kernel) in_w_c_odds9 gw_c_odds9) rfl rfl rfl (by decide +kernel) ⟨(Nat.le_of_ble_eq_true rfl), (Nat.le_of_ble_eq_true rfl)⟩) (kR_V kT_blind kT_give (va_recv hKc hPc (ci := 9) (q0 := 0) rfl rfl) hPc hKc) rfl rfl hl.1 rfl (lv_room (Nat.le_of_ble_eq_true rfl)) dL_law_1274 ⟨(Nat.le_of_ble_eq_true rfl), (Nat.le_of_ble_eq_true rfl)⟩).run (fun r_11 hw => ?_)
  obtain rfl : r_11 = (-1) := hw
  refine lv_aload_n hx hb dL_law_1277 rfl (lv_at hl 2 rfl) ?_
  refine lv_aload_n hx hb dL_law_1278 rfl (lv_at hl 4 rfl) ?_
  refine lv_iload hx hb dL_law_1279 (lv_at hl 0 rfl) ?_
  refine lv_iconst (v := 1) hx hb dL_law_1281 (by decide) ?_
  refine lv_iadd hx hb dL_law_1282 ?_
  refine lv_topi (fun y_12 ey_12 => ?_)
  obtain rfl : y_12 = 1 := ey_12.trans (by decide)
  refine va_sld hx hb hX hbl hbA hS (by unfold vp_in; decide) dL_law_1283 ?_
  refine lv_aload_n hx hb dL_law_1284 rfl (lv_at hl 4 rfl) ?_
  refine lv_iload hx hb dL_law_1285 (lv_at hl 0 rfl) ?_
  refine lv_iconst (v := 2) hx hb dL_law_1287 (by decide) ?_
  refine lv_iadd hx hb dL_law_1288 ?_
  refine lv_topi (fun y_13 ey_13 => ?_)
  obtain rfl : y_13 = 2 := ey_13.trans (by decide)
  refine va_sld hx hb hX hbl hbA hS (by unfold vp_in; decide) dL_law_1289 ?_
  obtain ⟨z_14, ez_14⟩ : ∃ z : Int64, z = Int32.toInt64 (xs (Int32.toNatClampNeg 2)) := ⟨_, rfl⟩
  refine lv_i2l (v := z_14) hx hb dL_law_1290 ez_14.symm ?_
  refine lv_bipush (v := 32) hx hb dL_law_1291 (by decide) ?_
  refine lv_lshl (v := z_14 <<< (Int32.toInt64 32 &&& 63)) hx hb dL_law_1293 rfl ?_
  refine lv_topl (fun z_15 ez_15 => ?_)
  refine lv_aload_n hx hb dL_law_1294 rfl (lv_at hl 4 rfl) ?_
  refine lv_iload hx hb dL_law_1295 (lv_at hl 0 rfl) ?_
  refine lv_iconst (v := 3) hx hb dL_law_1297 (by decide) ?_
  refine lv_iadd hx hb dL_law_1298 ?_
  refine lv_topi (fun y_16 ey_16 => ?_)
  obtain rfl : y_16 = 3 := ey_16.trans (by decide)
  refine va_sld hx hb hX hbl hbA hS (by unfold vp_in; decide) dL_law_1299 ?_
  obtain ⟨z_17, ez_17⟩ : ∃ z : Int64, z = Int32.toInt64 (xs (Int32.toNatClampNeg 3)) := ⟨_, rfl⟩
  refine lv_i2l (v := z_17) hx hb dL_law_1300 ez_17.symm ?_
  refine lv_ldc2 (v := 4294967295) hx hb hown (hts (.constantLong RL 62 (4294967295)) tw_1577) dL_law_1301 ?_
  refine lv_land hx hb dL_law_1304 ?_
  refine lv_topl (fun z_18 ez_18 => ?_)
  refine lv_lor hx hb dL_law_1305 ?_
  refine lv_topl (fun z_19 ez_19 => ?_)
  refine lv_aload_n hx hb dL_law_1306 rfl (lv_at hl 4 rfl) ?_
  refine lv_iload hx hb dL_law_1307 (lv_at hl 0 rfl) ?_
  refine lv_iconst (v := 4) hx hb dL_law_1309 (by decide) ?_
  refine lv_iadd hx hb dL_law_1310 ?_
  refine lv_topi (fun y_20 ey_20 => ?_)
  obtain rfl : y_20 = 4 := ey_20.trans (by decide)
  refine va_sld hx hb hX hbl hbA hS (by unfold vp_in; decide) dL_law_1311 ?_
  refine lv_aload_n hx hb dL_law_1312 rfl (lv_at hl 4 rfl) ?_
  refine lv_iload hx hb dL_law_1313 (lv_at hl 0 rfl) ?_
  refine lv_iconst (v := 5) hx hb dL_law_1315 (by decide) ?_
  refine lv_iadd hx hb dL_law_1316 ?_
  refine lv_topi (fun y_21 ey_21 => ?_)
  obtain rfl : y_21 = 5 := ey_21.trans (by decide)
  refine va_sld hx hb hX hbl hbA hS (by unfold vp_in; decide) dL_law_1317 ?_
  have hPc := hP.sub (ws' := [(g0, .inr (10, [.int 0, .ref b1, .ref b2, .ref b3, .ref b4, .ref b1, .int 0, .int 0, .int 0, .int 0, .int 0, .int 0, .int 0, .int 0, .int 0, .int 0, .ref (ad 5), .ref (ad 7), .int 0, .ref b19, .ref b20, .ref b21, .ref b22, .ref b23, .ref b24, .ref b25, .int 0, .int 0, .ref b28, .ref b29, .ref b30, .ref b31, .ref b32, .ref b33, .ref b34, .ref b35, .ref b36, .int 0, .int 0, .long 0, .ref b40, .ref b41, .ref b42, .ref b43, .ref b44, .int 0, .ref b46, .ref b47, .ref b48, .ref b49, .ref b50, .int 0]))]) [15] rfl
  have hKc := hK.sub (tys' := []) [] rfl
  have hDc := hD.sub (ws' := [(g0, .inr (10, [.int 0, .ref b1, .ref b2, .ref b3, .ref b4, .ref b1, .int 0, .int 0, .int 0, .int 0, .int 0, .int 0, .int 0, .int 0, .int 0, .int 0, .ref (ad 5), .ref (ad 7), .int 0, .ref b19, .ref b20, .ref b21, .ref b22, .ref b23, .ref b24, .ref b25, .int 0, .int 0, .ref b28, .ref b29, .ref b30, .ref b31, .ref b32, .ref b33, .ref b34, .ref b35, .ref b36, .int 0, .int 0, .long 0, .ref b40, .ref b41, .ref b42, .ref b43, .ref b44, .int 0, .ref b46, .ref b47, .ref b48, .ref b49, .ref b50, .int 0]))]) [15] (by decide) rfl
  have hFc := va_free (wc := [(g0, .inr (10, [.int 0, .ref b1, .ref b2, .ref b3, .ref b4, .ref b1, .int 0, .int 0, .int 0, .int 0, .int 0, .int 0, .int 0, .int 0, .int 0, .int 0, .ref (ad 5), .ref (ad 7), .int 0, .ref b19, .ref b20, .ref b21, .ref b22, .ref b23, .ref b24, .ref b25, .int 0, .int 0, .ref b28, .ref b29, .ref b30, .ref b31, .ref b32, .ref b33, .ref b34, .ref b35, .ref b36, .int 0, .int 0, .long 0, .ref b40, .ref b41, .ref b42, .ref b43, .ref b44, .int 0, .ref b46, .ref b47, .ref b48, .ref b49, .ref b50, .int 0]))]) hD hS hA [15] rfl
  refine va_calll (va_runV (As := [.int (xs (Int32.toNatClampNeg 1)), .long z_19, .int (xs (Int32.toNatClampNeg 4)), .int (xs (Int32.toNatClampNeg 5))]) (rest := [.long (-1)]) ⟨hx, hb, hml, hown, hts⟩ (c_odds10 l dC dI g0 (.int 0 : Value) (.ref b1 : Value) (.ref b2 : Value) (.ref b3 : Value) (.ref b4 : Value) (.ref b1 : Value) (.int 0 : Value) (.int 0 : Value) (.int 0 : Value) (.int 0 : Value) (.int 0 : Value) (.int 0 : Value) (.int 0 : Value) (.int 0 : Value) (.int 0 : Value) (.ref (ad 5) : Value) (.ref (ad 7) : Value) (.int 0 : Value) (.ref b19 : Value) (.ref b20 : Value) (.ref b21 : Value) (.ref b22 : Value) (.ref b23 : Value) (.ref b24 : Value) (.ref b25 : Value) (.int 0 : Value) (.int 0 : Value) (.ref b28 : Value) (.ref b29 : Value) (.ref b30 : Value) (.ref b31 : Value) (.ref b32 : Value) (.ref b33 : Value) (.ref b34 : Value) (.ref b35 : Value) (.ref b36 : Value) (.int 0 : Value) (.int 0 : Value) (.long 0 : Value) (.ref b40 : Value) (.ref b41 : Value) (.ref b42 : Value) (.ref b43 : Value) (.ref b44 : Value) (.int 0 : Value) (.ref b46 : Value) (.ref b47 : Value) (.ref b48 : Value) (.ref b49 : Value) (.ref b50 : Value) (.int 0 : Value) (xs (Int32.toNatClampNeg 1)) z_19 (xs (Int32.toNatClampNeg 4)) (xs (Int32.toNatClampNeg 5)) H.size) (cwV 4 hts (kG (List.forall_mem_cons.mpr ⟨tw_1495, (List.forall_mem_cons.mpr ⟨tw_1496, (List.forall_mem_cons.mpr ⟨tw_1497, (List.forall_mem_cons.mpr ⟨tw_85, (fun _ h => absurd h List.not_mem_nil)⟩)⟩)⟩)⟩) (by decide +kernel) in_w_c_odds10 gw_c_odds10) rfl rfl rfl (by decide +kernel) ⟨(Nat.le_of_ble_eq_true rfl), (Nat.le_of_ble_eq_true rfl)⟩) (kW_V kT_blind kT_give (va_recv hKc hPc (ci := 10) (q0 := 0) rfl rfl) hPc hKc hDc) rfl rfl hl.1 rfl (lv_room (Nat.le_of_ble_eq_true rfl)) dL_law_1318 ⟨(Nat.le_of_ble_eq_true rfl), (Nat.le_of_ble_eq_true rfl)⟩) hS (fun q _ h => hFc q h) hFc (fun r_22 u t H1 locs ht hvm hw hB hz1 hk1 hS => ?_)
  have hP1 : va_P (dC, dI) vwCl [] H1 := fun k q h => by simp at h
  have hD1 : va_D (va_A [(g0, .inr (10, [.int 0, .ref b1, .ref b2, .ref b3, .ref b4, .ref b1, .int 0, .int 0, .int 0, .int 0, .int 0, .int 0, .int 0, .int 0, .int 0, .int 0, .ref (ad 5), .ref (ad 7), .int 0, .ref b19, .ref b20, .ref b21, .ref b22, .ref b23, .ref b24, .ref b25, .int 0, .int 0, .ref b28, .ref b29, .ref b30, .ref b31, .ref b32, .ref b33, .ref b34, .ref b35, .ref b36, .int 0, .int 0, .long 0, .ref b40, .ref b41, .ref b42, .ref b43, .ref b44, .int 0, .ref b46, .ref b47, .ref b48, .ref b49, .ref b50, .int 0]))] H.size) [] := ⟨fun i j p q h => by simp at h, fun k q h => by simp at h⟩
  try dsimp only at hw
  obtain ⟨hP, hD⟩ := va_join (wr := [(h0, .inr (9, [.ref jT, .ref jR, .ref e2, .ref jL, .ref jU, .ref jF, .ref e6, .ref jN, .ref jA, .ref e9])), (jT, .inr (8, [.ref t0, .int 0])), (t0, .inl (cC, 120, .inl (fun _ => 0))), (jR, .inr (4, [.ref jT, .ref r1, .ref r2, .int 0, .int 0, .int 0, .ref (ad 0), .ref (ad 0)])), (jL, .inr (7, [.ref l0, .int 0])), (l0, .inl (cL, 6, .inr (.inr (.inr (.inr (fun _ => none)))))), (jU, .inr (7, [.ref m0, .int 0])), (m0, .inl (cM, 8, .inr (.inr (.inr (.inr (fun _ => none)))))), (jF, .inr (2, [.ref f0, .ref f1, .ref f2, .ref f3, .ref f4, .int 0, .int 0, .int 0])), (f0, .inl (z0, 10, .inl (fun _ => 0))), (f1, .inl (z1, 10, .inl (fun _ => 0))), (f2, .inl (z2, 10, .inl (fun _ => 0))), (f4, .inl (z4, 4, .inl (fun _ => 0))), (jN, .inr (3, [.ref n0, .ref n1, .ref n2, .ref n3, .ref n4, .int 0])), (jA, .inr (0, [.ref a0, .ref a1, .ref a2, .ref a3, .int 0])), (b1, .inl (y1, 120, .inl (fun _ => 0))), (b19, .inl (y19, 10, .inl (fun _ => 0))), (b20, .inl (y20, 10, .inl (fun _ => 0))), (b21, .inl (y21, 10, .inl (fun _ => 0))), (b22, .inl (y22, 10, .inl (fun _ => 0))), (b23, .inl (y23, 10, .inl (fun _ => 0))), (b24, .inl (y24, 4, .inl (fun _ => 0))), (b25, .inl (y25, 10, .inl (fun _ => 0))), (o0, .inl (cO, 1, .inr (.inl (fun _ => 0))))]) (w1 := []) hP hD [15] [0, 1, 2, 3, 4, 5, 6, 7, 8, 9, 10, 11, 12, 13, 14, 16, 17, 18, 19, 20, 21, 22, 23, 24] rfl rfl (by decide) (by decide) hk1 hFc hP1 hD1
  generalize H1 = H at hP hS ⊢
  have hP : va_P (dC, dI) vwCl [(h0, .inr (9, [.ref jT, .ref jR, .ref e2, .ref jL, .ref jU, .ref jF, .ref e6, .ref jN, .ref jA, .ref e9])), (jT, .inr (8, [.ref t0, .int 0])), (t0, .inl (cC, 120, .inl (fun _ => 0))), (jR, .inr (4, [.ref jT, .ref r1, .ref r2, .int 0, .int 0, .int 0, .ref (ad 0), .ref (ad 0)])), (jL, .inr (7, [.ref l0, .int 0])), (l0, .inl (cL, 6, .inr (.inr (.inr (.inr (fun _ => none)))))), (jU, .inr (7, [.ref m0, .int 0])), (m0, .inl (cM, 8, .inr (.inr (.inr (.inr (fun _ => none)))))), (jF, .inr (2, [.ref f0, .ref f1, .ref f2, .ref f3, .ref f4, .int 0, .int 0, .int 0])), (f0, .inl (z0, 10, .inl (fun _ => 0))), (f1, .inl (z1, 10, .inl (fun _ => 0))), (f2, .inl (z2, 10, .inl (fun _ => 0))), (f4, .inl (z4, 4, .inl (fun _ => 0))), (jN, .inr (3, [.ref n0, .ref n1, .ref n2, .ref n3, .ref n4, .int 0])), (jA, .inr (0, [.ref a0, .ref a1, .ref a2, .ref a3, .int 0])), (b1, .inl (y1, 120, .inl (fun _ => 0))), (b19, .inl (y19, 10, .inl (fun _ => 0))), (b20, .inl (y20, 10, .inl (fun _ => 0))), (b21, .inl (y21, 10, .inl (fun _ => 0))), (b22, .inl (y22, 10, .inl (fun _ => 0))), (b23, .inl (y23, 10, .inl (fun _ => 0))), (b24, .inl (y24, 4, .inl (fun _ => 0))), (b25, .inl (y25, 10, .inl (fun _ => 0))), (o0, .inl (cO, 1, .inr (.inl (fun _ => 0))))] H := hP
  have hD : va_D (fun q : Nat => s.heap.size ≤ q) [(h0, .inr (9, [.ref jT, .ref jR, .ref e2, .ref jL, .ref jU, .ref jF, .ref e6, .ref jN, .ref jA, .ref e9])), (jT, .inr (8, [.ref t0, .int 0])), (t0, .inl (cC, 120, .inl (fun _ => 0))), (jR, .inr (4, [.ref jT, .ref r1, .ref r2, .int 0, .int 0, .int 0, .ref (ad 0), .ref (ad 0)])), (jL, .inr (7, [.ref l0, .int 0])), (l0, .inl (cL, 6, .inr (.inr (.inr (.inr (fun _ => none)))))), (jU, .inr (7, [.ref m0, .int 0])), (m0, .inl (cM, 8, .inr (.inr (.inr (.inr (fun _ => none)))))), (jF, .inr (2, [.ref f0, .ref f1, .ref f2, .ref f3, .ref f4, .int 0, .int 0, .int 0])), (f0, .inl (z0, 10, .inl (fun _ => 0))), (f1, .inl (z1, 10, .inl (fun _ => 0))), (f2, .inl (z2, 10, .inl (fun _ => 0))), (f4, .inl (z4, 4, .inl (fun _ => 0))), (jN, .inr (3, [.ref n0, .ref n1, .ref n2, .ref n3, .ref n4, .int 0])), (jA, .inr (0, [.ref a0, .ref a1, .ref a2, .ref a3, .int 0])), (b1, .inl (y1, 120, .inl (fun _ => 0))), (b19, .inl (y19, 10, .inl (fun _ => 0))), (b20, .inl (y20, 10, .inl (fun _ => 0))), (b21, .inl (y21, 10, .inl (fun _ => 0))), (b22, .inl (y22, 10, .inl (fun _ => 0))), (b23, .inl (y23, 10, .inl (fun _ => 0))), (b24, .inl (y24, 4, .inl (fun _ => 0))), (b25, .inl (y25, 10, .inl (fun _ => 0))), (o0, .inl (cO, 1, .inr (.inl (fun _ => 0))))] := hD
  obtain rfl : r_22 = (-1) := hw
  refine W.lcmp hx hb dL_law_1321 ?_
  refine lv_topi (fun y_23 ey_23 => ?_)
  obtain rfl : y_23 = 0 := ey_23.trans (by decide)
  refine lv_if_eq (tgt := 1792) hx hb dL_law_1322 (by decide) (fun c_24 => ?_) (fun c_24 => absurd (by decide) c_24)
  exact law_tail C0 hS (Nat.le_of_ble_eq_true rfl) (Nat.le_of_ble_eq_true rfl) (lv_sub hl [0, 1, 2, 3, 4] rfl)

theorem dL_law_1327 : decode cL_law 1327 = .ok (.aload_n 1, 1) := by decide +kernel
theorem dL_law_1328 : decode cL_law 1328 = .ok (.aload_n 0, 1) := by decide +kernel
theorem dL_law_1329 : decode cL_law 1329 = .ok (.iload 4, 2) := by decide +kernel
theorem dL_law_1331 : decode cL_law 1331 = .ok (.iconst 1, 1) := by decide +kernel
theorem dL_law_1332 : decode cL_law 1332 = .ok (.iadd, 1) := by decide +kernel
theorem dL_law_1333 : decode cL_law 1333 = .ok (.iaload, 1) := by decide +kernel
theorem dL_law_1334 : decode cL_law 1334 = .ok (.aload_n 0, 1) := by decide +kernel
theorem dL_law_1335 : decode cL_law 1335 = .ok (.iload 4, 2) := by decide +kernel
theorem dL_law_1337 : decode cL_law 1337 = .ok (.iconst 2, 1) := by decide +kernel
theorem dL_law_1338 : decode cL_law 1338 = .ok (.iadd, 1) := by decide +kernel
theorem dL_law_1339 : decode cL_law 1339 = .ok (.iaload, 1) := by decide +kernel
theorem dL_law_1340 : decode cL_law 1340 = .ok (.invokevirtual 105, 3) := by decide +kernel
theorem dL_law_1343 : decode cL_law 1343 = .ok (.aload_n 2, 1) := by decide +kernel
theorem dL_law_1344 : decode cL_law 1344 = .ok (.aload_n 0, 1) := by decide +kernel
theorem dL_law_1345 : decode cL_law 1345 = .ok (.iload 4, 2) := by decide +kernel
theorem dL_law_1347 : decode cL_law 1347 = .ok (.iconst 1, 1) := by decide +kernel
theorem dL_law_1348 : decode cL_law 1348 = .ok (.iadd, 1) := by decide +kernel
theorem dL_law_1349 : decode cL_law 1349 = .ok (.iaload, 1) := by decide +kernel
theorem dL_law_1350 : decode cL_law 1350 = .ok (.aload_n 0, 1) := by decide +kernel
theorem dL_law_1351 : decode cL_law 1351 = .ok (.iload 4, 2) := by decide +kernel
theorem dL_law_1353 : decode cL_law 1353 = .ok (.iconst 2, 1) := by decide +kernel
theorem dL_law_1354 : decode cL_law 1354 = .ok (.iadd, 1) := by decide +kernel
theorem dL_law_1355 : decode cL_law 1355 = .ok (.iaload, 1) := by decide +kernel
theorem dL_law_1356 : decode cL_law 1356 = .ok (.invokevirtual 109, 3) := by decide +kernel
theorem dL_law_1359 : decode cL_law 1359 = .ok (.if_icmp .eq 433, 3) := by decide +kernel
set_option maxHeartbeats 4000000 in
set_option maxRecDepth 100000 in
theorem law_17 {p : Program} {l : Launch} {e : Env} {s : State} {m : MethodId} {below : List Frame} {meth : Method} {c : Code} {b : Nat} {xs : Nat → Int32} {dC : Nat → ClassId} {dI : Nat → Nat → Nat} {ad : Nat → Nat} {h0 : Nat} {g0 : Nat} {o0 : Nat} {jT : Nat} {jR : Nat} {e2 : Nat} {jL : Nat} {jU : Nat} {jF : Nat} {e6 : Nat} {jN : Nat} {jA : Nat} {e9 : Nat} {t0 : Nat} {r1 : Nat} {r2 : Nat} {l0 : Nat} {m0 : Nat} {f0 : Nat} {f1 : Nat} {f2 : Nat} {f3 : Nat} {f4 : Nat} {n0 : Nat} {n1 : Nat} {n2 : Nat} {n3 : Nat} {n4 : Nat} {a0 : Nat} {a1 : Nat} {a2 : Nat} {a3 : Nat} {cC : ClassId} {cL : ClassId} {cM : ClassId} {z0 : ClassId} {z1 : ClassId} {z2 : ClassId} {z4 : ClassId} {b1 : Nat} {b2 : Nat} {b3 : Nat} {b4 : Nat} {b19 : Nat} {b20 : Nat} {b21 : Nat} {b22 : Nat} {b23 : Nat} {b24 : Nat} {b25 : Nat} {b28 : Nat} {b29 : Nat} {b30 : Nat} {b31 : Nat} {b32 : Nat} {b33 : Nat} {b34 : Nat} {b35 : Nat} {b36 : Nat} {b40 : Nat} {b41 : Nat} {b42 : Nat} {b43 : Nat} {b44 : Nat} {b46 : Nat} {b47 : Nat} {b48 : Nat} {b49 : Nat} {b50 : Nat} {y1 : ClassId} {y19 : ClassId} {y20 : ClassId} {y21 : ClassId} {y22 : ClassId} {y23 : ClassId} {y24 : ClassId} {y25 : ClassId} {cO : ClassId} (C0 : lw_At p s m meth c b 7 xs) (hXX : kLaw ad s) {H : Heap} {locs : List Loc} (hK : va_K (dC, dI) vwCl [(cC, .char), (cL, .object RX6), (cM, .object RX6), (z0, .int), (z1, .int), (z2, .int), (z4, .int), (y1, .byte), (y19, .int), (y20, .int), (y21, .int), (y22, .int), (y23, .int), (y24, .int), (y25, .boolean), (cO, .long)] s) (hP : va_P (dC, dI) vwCl [(h0, .inr (9, [.ref jT, .ref jR, .ref e2, .ref jL, .ref jU, .ref jF, .ref e6, .ref jN, .ref jA, .ref e9])), (jT, .inr (8, [.ref t0, .int 0])), (t0, .inl (cC, 120, .inl (fun _ => 0))), (jR, .inr (4, [.ref jT, .ref r1, .ref r2, .int 0, .int 0, .int 0, .ref (ad 0), .ref (ad 0)])), (jL, .inr (7, [.ref l0, .int 0])), (l0, .inl (cL, 6, .inr (.inr (.inr (.inr (fun _ => none)))))), (jU, .inr (7, [.ref m0, .int 0])), (m0, .inl (cM, 8, .inr (.inr (.inr (.inr (fun _ => none)))))), (jF, .inr (2, [.ref f0, .ref f1, .ref f2, .ref f3, .ref f4, .int 0, .int 0, .int 0])), (f0, .inl (z0, 10, .inl (fun _ => 0))), (f1, .inl (z1, 10, .inl (fun _ => 0))), (f2, .inl (z2, 10, .inl (fun _ => 0))), (f4, .inl (z4, 4, .inl (fun _ => 0))), (jN, .inr (3, [.ref n0, .ref n1, .ref n2, .ref n3, .ref n4, .int 0])), (jA, .inr (0, [.ref a0, .ref a1, .ref a2, .ref a3, .int 0])), (g0, .inr (10, [.int 0, .ref b1, .ref b2, .ref b3, .ref b4, .ref b1, .int 0, .int 0, .int 0, .int 0, .int 0, .int 0, .int 0, .int 0, .int 0, .int 0, .ref (ad 5), .ref (ad 7), .int 0, .ref b19, .ref b20, .ref b21, .ref b22, .ref b23, .ref b24, .ref b25, .int 0, .int 0, .ref b28, .ref b29, .ref b30, .ref b31, .ref b32, .ref b33, .ref b34, .ref b35, .ref b36, .int 0, .int 0, .long 0, .ref b40, .ref b41, .ref b42, .ref b43, .ref b44, .int 0, .ref b46, .ref b47, .ref b48, .ref b49, .ref b50, .int 0])), (b1, .inl (y1, 120, .inl (fun _ => 0))), (b19, .inl (y19, 10, .inl (fun _ => 0))), (b20, .inl (y20, 10, .inl (fun _ => 0))), (b21, .inl (y21, 10, .inl (fun _ => 0))), (b22, .inl (y22, 10, .inl (fun _ => 0))), (b23, .inl (y23, 10, .inl (fun _ => 0))), (b24, .inl (y24, 4, .inl (fun _ => 0))), (b25, .inl (y25, 10, .inl (fun _ => 0))), (o0, .inl (cO, 1, .inr (.inl (fun _ => 0))))] H) (hD : va_D (fun q : Nat => s.heap.size ≤ q) [(h0, .inr (9, [.ref jT, .ref jR, .ref e2, .ref jL, .ref jU, .ref jF, .ref e6, .ref jN, .ref jA, .ref e9])), (jT, .inr (8, [.ref t0, .int 0])), (t0, .inl (cC, 120, .inl (fun _ => 0))), (jR, .inr (4, [.ref jT, .ref r1, .ref r2, .int 0, .int 0, .int 0, .ref (ad 0), .ref (ad 0)])), (jL, .inr (7, [.ref l0, .int 0])), (l0, .inl (cL, 6, .inr (.inr (.inr (.inr (fun _ => none)))))), (jU, .inr (7, [.ref m0, .int 0])), (m0, .inl (cM, 8, .inr (.inr (.inr (.inr (fun _ => none)))))), (jF, .inr (2, [.ref f0, .ref f1, .ref f2, .ref f3, .ref f4, .int 0, .int 0, .int 0])), (f0, .inl (z0, 10, .inl (fun _ => 0))), (f1, .inl (z1, 10, .inl (fun _ => 0))), (f2, .inl (z2, 10, .inl (fun _ => 0))), (f4, .inl (z4, 4, .inl (fun _ => 0))), (jN, .inr (3, [.ref n0, .ref n1, .ref n2, .ref n3, .ref n4, .int 0])), (jA, .inr (0, [.ref a0, .ref a1, .ref a2, .ref a3, .int 0])), (g0, .inr (10, [.int 0, .ref b1, .ref b2, .ref b3, .ref b4, .ref b1, .int 0, .int 0, .int 0, .int 0, .int 0, .int 0, .int 0, .int 0, .int 0, .int 0, .ref (ad 5), .ref (ad 7), .int 0, .ref b19, .ref b20, .ref b21, .ref b22, .ref b23, .ref b24, .ref b25, .int 0, .int 0, .ref b28, .ref b29, .ref b30, .ref b31, .ref b32, .ref b33, .ref b34, .ref b35, .ref b36, .int 0, .int 0, .long 0, .ref b40, .ref b41, .ref b42, .ref b43, .ref b44, .int 0, .ref b46, .ref b47, .ref b48, .ref b49, .ref b50, .int 0])), (b1, .inl (y1, 120, .inl (fun _ => 0))), (b19, .inl (y19, 10, .inl (fun _ => 0))), (b20, .inl (y20, 10, .inl (fun _ => 0))), (b21, .inl (y21, 10, .inl (fun _ => 0))), (b22, .inl (y22, 10, .inl (fun _ => 0))), (b23, .inl (y23, 10, .inl (fun _ => 0))), (b24, .inl (y24, 4, .inl (fun _ => 0))), (b25, .inl (y25, 10, .inl (fun _ => 0))), (o0, .inl (cO, 1, .inr (.inl (fun _ => 0))))]) (hS : va_S (fun q : Nat => s.heap.size ≤ q) s.heap H locs) {ls : Array Slot} (hl : lv_has ls 7 [(4, .int 0), (3, .ref o0), (2, .ref g0), (1, .ref h0), (0, .ref b)]) (hlt : l.stackTraces = false) : W p l e room_1 s m #[Value.ref b] below meth c H locs 76 3048 (lw_Z below #[Value.ref b] s) (F0 m 1327 ls []) := by
  obtain ⟨hx, hb, hr, hml, hown, hts, hX, hbl, hlocks, hgv⟩ := id C0
  have hown : s.vm.findClass RL = some m.cls := hown
  have hA : ∀ q : Nat, s.heap.size ≤ q → (fun q : Nat => s.heap.size ≤ q) q := fun _ h => h
  have hbA : ¬ (fun q : Nat => s.heap.size ≤ q) b := Nat.not_le.mpr hbl
  refine lv_aload_n hx hb dL_law_1327 rfl (lv_at hl 3 rfl) ?_
  refine lv_aload_n hx hb dL_law_1328 rfl (lv_at hl 4 rfl) ?_
  refine lv_iload hx hb dL_law_1329 (lv_at hl 0 rfl) ?_
  refine lv_iconst (v := 1) hx hb dL_law_1331 (by decide) ?_
  refine lv_iadd hx hb dL_law_1332 ?_
  refine lv_topi (fun y_1 ey_1 => ?_)
  obtain rfl : y_1 = 1 := ey_1.trans (by decide)
  refine va_sld hx hb hX hbl hbA hS (by unfold vp_in; decide) dL_law_1333 ?_
  refine lv_aload_n hx hb dL_law_1334 rfl (lv_at hl 4 rfl) ?_
  refine lv_iload hx hb dL_law_1335 (lv_at hl 0 rfl) ?_
  refine lv_iconst (v := 2) hx hb dL_law_1337 (by decide) ?_
  refine lv_iadd hx hb dL_law_1338 ?_
  refine lv_topi (fun y_2 ey_2 => ?_)
  obtain rfl : y_2 = 2 := ey_2.trans (by decide)
  refine va_sld hx hb hX hbl hbA hS (by unfold vp_in; decide) dL_law_1339 ?_
  have hPc := hP.sub (ws' := [(h0, .inr (9, [.ref jT, .ref jR, .ref e2, .ref jL, .ref jU, .ref jF, .ref e6, .ref jN, .ref jA, .ref e9])), (jU, .inr (7, [.ref m0, .int 0]))]) [0, 6] rfl
  have hKc := hK.sub (tys' := []) [] rfl
  refine vp_callSi (va_runV (As := [.int (xs (Int32.toNatClampNeg 1)), .int (xs (Int32.toNatClampNeg 2))]) (rest := []) ⟨hx, hb, hml, hown, hts⟩ (c_lets9 l dC dI h0 jU (.ref jT : Value) (.ref jR : Value) (.ref e2 : Value) (.ref jL : Value) (.ref jF : Value) (.ref e6 : Value) (.ref jN : Value) (.ref jA : Value) (.ref e9 : Value) (.ref m0 : Value) (xs (Int32.toNatClampNeg 1)) (xs (Int32.toNatClampNeg 2))) (cwV 2 hts (kG (List.forall_mem_cons.mpr ⟨tw_876, (List.forall_mem_cons.mpr ⟨tw_877, (List.forall_mem_cons.mpr ⟨tw_878, (List.forall_mem_cons.mpr ⟨tw_75, (fun _ h => absurd h List.not_mem_nil)⟩)⟩)⟩)⟩) (by decide +kernel) in_w_c_lets9 gw_c_lets9) rfl rfl rfl (by decide +kernel) ⟨(Nat.le_of_ble_eq_true rfl), (Nat.le_of_ble_eq_true rfl)⟩) (kR_V kT_blind kT_give (va_recv hKc hPc (ci := 9) (q0 := 0) rfl rfl) hPc hKc) rfl rfl hl.1 rfl (lv_room (Nat.le_of_ble_eq_true rfl)) dL_law_1340 ⟨(Nat.le_of_ble_eq_true rfl), (Nat.le_of_ble_eq_true rfl)⟩).run (fun r_3 hw => ?_)
  obtain rfl : r_3 = (-1) := hw
  refine lv_aload_n hx hb dL_law_1343 rfl (lv_at hl 2 rfl) ?_
  refine lv_aload_n hx hb dL_law_1344 rfl (lv_at hl 4 rfl) ?_
  refine lv_iload hx hb dL_law_1345 (lv_at hl 0 rfl) ?_
  refine lv_iconst (v := 1) hx hb dL_law_1347 (by decide) ?_
  refine lv_iadd hx hb dL_law_1348 ?_
  refine lv_topi (fun y_4 ey_4 => ?_)
  obtain rfl : y_4 = 1 := ey_4.trans (by decide)
  refine va_sld hx hb hX hbl hbA hS (by unfold vp_in; decide) dL_law_1349 ?_
  refine lv_aload_n hx hb dL_law_1350 rfl (lv_at hl 4 rfl) ?_
  refine lv_iload hx hb dL_law_1351 (lv_at hl 0 rfl) ?_
  refine lv_iconst (v := 2) hx hb dL_law_1353 (by decide) ?_
  refine lv_iadd hx hb dL_law_1354 ?_
  refine lv_topi (fun y_5 ey_5 => ?_)
  obtain rfl : y_5 = 2 := ey_5.trans (by decide)
  refine va_sld hx hb hX hbl hbA hS (by unfold vp_in; decide) dL_law_1355 ?_
  have hPc := hP.sub (ws' := [(g0, .inr (10, [.int 0, .ref b1, .ref b2, .ref b3, .ref b4, .ref b1, .int 0, .int 0, .int 0, .int 0, .int 0, .int 0, .int 0, .int 0, .int 0, .int 0, .ref (ad 5), .ref (ad 7), .int 0, .ref b19, .ref b20, .ref b21, .ref b22, .ref b23, .ref b24, .ref b25, .int 0, .int 0, .ref b28, .ref b29, .ref b30, .ref b31, .ref b32, .ref b33, .ref b34, .ref b35, .ref b36, .int 0, .int 0, .long 0, .ref b40, .ref b41, .ref b42, .ref b43, .ref b44, .int 0, .ref b46, .ref b47, .ref b48, .ref b49, .ref b50, .int 0]))]) [15] rfl
  have hKc := hK.sub (tys' := []) [] rfl
  have hDc := hD.sub (ws' := [(g0, .inr (10, [.int 0, .ref b1, .ref b2, .ref b3, .ref b4, .ref b1, .int 0, .int 0, .int 0, .int 0, .int 0, .int 0, .int 0, .int 0, .int 0, .int 0, .ref (ad 5), .ref (ad 7), .int 0, .ref b19, .ref b20, .ref b21, .ref b22, .ref b23, .ref b24, .ref b25, .int 0, .int 0, .ref b28, .ref b29, .ref b30, .ref b31, .ref b32, .ref b33, .ref b34, .ref b35, .ref b36, .int 0, .int 0, .long 0, .ref b40, .ref b41, .ref b42, .ref b43, .ref b44, .int 0, .ref b46, .ref b47, .ref b48, .ref b49, .ref b50, .int 0]))]) [15] (by decide) rfl
  have hFc := va_free (wc := [(g0, .inr (10, [.int 0, .ref b1, .ref b2, .ref b3, .ref b4, .ref b1, .int 0, .int 0, .int 0, .int 0, .int 0, .int 0, .int 0, .int 0, .int 0, .int 0, .ref (ad 5), .ref (ad 7), .int 0, .ref b19, .ref b20, .ref b21, .ref b22, .ref b23, .ref b24, .ref b25, .int 0, .int 0, .ref b28, .ref b29, .ref b30, .ref b31, .ref b32, .ref b33, .ref b34, .ref b35, .ref b36, .int 0, .int 0, .long 0, .ref b40, .ref b41, .ref b42, .ref b43, .ref b44, .int 0, .ref b46, .ref b47, .ref b48, .ref b49, .ref b50, .int 0]))]) hD hS hA [15] rfl
  refine va_calli (va_runV (As := [.int (xs (Int32.toNatClampNeg 1)), .int (xs (Int32.toNatClampNeg 2))]) (rest := [.int (-1)]) ⟨hx, hb, hml, hown, hts⟩ (c_lets10 l dC dI g0 (.int 0 : Value) (.ref b1 : Value) (.ref b2 : Value) (.ref b3 : Value) (.ref b4 : Value) (.ref b1 : Value) (.int 0 : Value) (.int 0 : Value) (.int 0 : Value) (.int 0 : Value) (.int 0 : Value) (.int 0 : Value) (.int 0 : Value) (.int 0 : Value) (.int 0 : Value) (.ref (ad 5) : Value) (.ref (ad 7) : Value) (.int 0 : Value) (.ref b19 : Value) (.ref b20 : Value) (.ref b21 : Value) (.ref b22 : Value) (.ref b23 : Value) (.ref b24 : Value) (.ref b25 : Value) (.int 0 : Value) (.int 0 : Value) (.ref b28 : Value) (.ref b29 : Value) (.ref b30 : Value) (.ref b31 : Value) (.ref b32 : Value) (.ref b33 : Value) (.ref b34 : Value) (.ref b35 : Value) (.ref b36 : Value) (.int 0 : Value) (.int 0 : Value) (.long 0 : Value) (.ref b40 : Value) (.ref b41 : Value) (.ref b42 : Value) (.ref b43 : Value) (.ref b44 : Value) (.int 0 : Value) (.ref b46 : Value) (.ref b47 : Value) (.ref b48 : Value) (.ref b49 : Value) (.ref b50 : Value) (.int 0 : Value) (xs (Int32.toNatClampNeg 1)) (xs (Int32.toNatClampNeg 2)) H.size) (cwV 2 hts (kG (List.forall_mem_cons.mpr ⟨tw_1500, (List.forall_mem_cons.mpr ⟨tw_1501, (List.forall_mem_cons.mpr ⟨tw_1502, (List.forall_mem_cons.mpr ⟨tw_85, (fun _ h => absurd h List.not_mem_nil)⟩)⟩)⟩)⟩) (by decide +kernel) in_w_c_lets10 gw_c_lets10) rfl rfl rfl (by decide +kernel) ⟨(Nat.le_of_ble_eq_true rfl), (Nat.le_of_ble_eq_true rfl)⟩) (kW_V kT_blind kT_give (va_recv hKc hPc (ci := 10) (q0 := 0) rfl rfl) hPc hKc hDc) rfl rfl hl.1 rfl (lv_room (Nat.le_of_ble_eq_true rfl)) dL_law_1356 ⟨(Nat.le_of_ble_eq_true rfl), (Nat.le_of_ble_eq_true rfl)⟩) hS (fun q _ h => hFc q h) hFc (fun r_6 u t H1 locs ht hvm hw hB hz1 hk1 hS => ?_)
  have hP1 : va_P (dC, dI) vwCl [] H1 := fun k q h => by simp at h
  have hD1 : va_D (va_A [(g0, .inr (10, [.int 0, .ref b1, .ref b2, .ref b3, .ref b4, .ref b1, .int 0, .int 0, .int 0, .int 0, .int 0, .int 0, .int 0, .int 0, .int 0, .int 0, .ref (ad 5), .ref (ad 7), .int 0, .ref b19, .ref b20, .ref b21, .ref b22, .ref b23, .ref b24, .ref b25, .int 0, .int 0, .ref b28, .ref b29, .ref b30, .ref b31, .ref b32, .ref b33, .ref b34, .ref b35, .ref b36, .int 0, .int 0, .long 0, .ref b40, .ref b41, .ref b42, .ref b43, .ref b44, .int 0, .ref b46, .ref b47, .ref b48, .ref b49, .ref b50, .int 0]))] H.size) [] := ⟨fun i j p q h => by simp at h, fun k q h => by simp at h⟩
  try dsimp only at hw
  obtain ⟨hP, hD⟩ := va_join (wr := [(h0, .inr (9, [.ref jT, .ref jR, .ref e2, .ref jL, .ref jU, .ref jF, .ref e6, .ref jN, .ref jA, .ref e9])), (jT, .inr (8, [.ref t0, .int 0])), (t0, .inl (cC, 120, .inl (fun _ => 0))), (jR, .inr (4, [.ref jT, .ref r1, .ref r2, .int 0, .int 0, .int 0, .ref (ad 0), .ref (ad 0)])), (jL, .inr (7, [.ref l0, .int 0])), (l0, .inl (cL, 6, .inr (.inr (.inr (.inr (fun _ => none)))))), (jU, .inr (7, [.ref m0, .int 0])), (m0, .inl (cM, 8, .inr (.inr (.inr (.inr (fun _ => none)))))), (jF, .inr (2, [.ref f0, .ref f1, .ref f2, .ref f3, .ref f4, .int 0, .int 0, .int 0])), (f0, .inl (z0, 10, .inl (fun _ => 0))), (f1, .inl (z1, 10, .inl (fun _ => 0))), (f2, .inl (z2, 10, .inl (fun _ => 0))), (f4, .inl (z4, 4, .inl (fun _ => 0))), (jN, .inr (3, [.ref n0, .ref n1, .ref n2, .ref n3, .ref n4, .int 0])), (jA, .inr (0, [.ref a0, .ref a1, .ref a2, .ref a3, .int 0])), (b1, .inl (y1, 120, .inl (fun _ => 0))), (b19, .inl (y19, 10, .inl (fun _ => 0))), (b20, .inl (y20, 10, .inl (fun _ => 0))), (b21, .inl (y21, 10, .inl (fun _ => 0))), (b22, .inl (y22, 10, .inl (fun _ => 0))), (b23, .inl (y23, 10, .inl (fun _ => 0))), (b24, .inl (y24, 4, .inl (fun _ => 0))), (b25, .inl (y25, 10, .inl (fun _ => 0))), (o0, .inl (cO, 1, .inr (.inl (fun _ => 0))))]) (w1 := []) hP hD [15] [0, 1, 2, 3, 4, 5, 6, 7, 8, 9, 10, 11, 12, 13, 14, 16, 17, 18, 19, 20, 21, 22, 23, 24] rfl rfl (by decide) (by decide) hk1 hFc hP1 hD1
  generalize H1 = H at hP hS ⊢
  have hP : va_P (dC, dI) vwCl [(h0, .inr (9, [.ref jT, .ref jR, .ref e2, .ref jL, .ref jU, .ref jF, .ref e6, .ref jN, .ref jA, .ref e9])), (jT, .inr (8, [.ref t0, .int 0])), (t0, .inl (cC, 120, .inl (fun _ => 0))), (jR, .inr (4, [.ref jT, .ref r1, .ref r2, .int 0, .int 0, .int 0, .ref (ad 0), .ref (ad 0)])), (jL, .inr (7, [.ref l0, .int 0])), (l0, .inl (cL, 6, .inr (.inr (.inr (.inr (fun _ => none)))))), (jU, .inr (7, [.ref m0, .int 0])), (m0, .inl (cM, 8, .inr (.inr (.inr (.inr (fun _ => none)))))), (jF, .inr (2, [.ref f0, .ref f1, .ref f2, .ref f3, .ref f4, .int 0, .int 0, .int 0])), (f0, .inl (z0, 10, .inl (fun _ => 0))), (f1, .inl (z1, 10, .inl (fun _ => 0))), (f2, .inl (z2, 10, .inl (fun _ => 0))), (f4, .inl (z4, 4, .inl (fun _ => 0))), (jN, .inr (3, [.ref n0, .ref n1, .ref n2, .ref n3, .ref n4, .int 0])), (jA, .inr (0, [.ref a0, .ref a1, .ref a2, .ref a3, .int 0])), (b1, .inl (y1, 120, .inl (fun _ => 0))), (b19, .inl (y19, 10, .inl (fun _ => 0))), (b20, .inl (y20, 10, .inl (fun _ => 0))), (b21, .inl (y21, 10, .inl (fun _ => 0))), (b22, .inl (y22, 10, .inl (fun _ => 0))), (b23, .inl (y23, 10, .inl (fun _ => 0))), (b24, .inl (y24, 4, .inl (fun _ => 0))), (b25, .inl (y25, 10, .inl (fun _ => 0))), (o0, .inl (cO, 1, .inr (.inl (fun _ => 0))))] H := hP
  have hD : va_D (fun q : Nat => s.heap.size ≤ q) [(h0, .inr (9, [.ref jT, .ref jR, .ref e2, .ref jL, .ref jU, .ref jF, .ref e6, .ref jN, .ref jA, .ref e9])), (jT, .inr (8, [.ref t0, .int 0])), (t0, .inl (cC, 120, .inl (fun _ => 0))), (jR, .inr (4, [.ref jT, .ref r1, .ref r2, .int 0, .int 0, .int 0, .ref (ad 0), .ref (ad 0)])), (jL, .inr (7, [.ref l0, .int 0])), (l0, .inl (cL, 6, .inr (.inr (.inr (.inr (fun _ => none)))))), (jU, .inr (7, [.ref m0, .int 0])), (m0, .inl (cM, 8, .inr (.inr (.inr (.inr (fun _ => none)))))), (jF, .inr (2, [.ref f0, .ref f1, .ref f2, .ref f3, .ref f4, .int 0, .int 0, .int 0])), (f0, .inl (z0, 10, .inl (fun _ => 0))), (f1, .inl (z1, 10, .inl (fun _ => 0))), (f2, .inl (z2, 10, .inl (fun _ => 0))), (f4, .inl (z4, 4, .inl (fun _ => 0))), (jN, .inr (3, [.ref n0, .ref n1, .ref n2, .ref n3, .ref n4, .int 0])), (jA, .inr (0, [.ref a0, .ref a1, .ref a2, .ref a3, .int 0])), (b1, .inl (y1, 120, .inl (fun _ => 0))), (b19, .inl (y19, 10, .inl (fun _ => 0))), (b20, .inl (y20, 10, .inl (fun _ => 0))), (b21, .inl (y21, 10, .inl (fun _ => 0))), (b22, .inl (y22, 10, .inl (fun _ => 0))), (b23, .inl (y23, 10, .inl (fun _ => 0))), (b24, .inl (y24, 4, .inl (fun _ => 0))), (b25, .inl (y25, 10, .inl (fun _ => 0))), (o0, .inl (cO, 1, .inr (.inl (fun _ => 0))))] := hD
  obtain rfl : r_6 = (-1) := hw
  refine lv_icmp_eq (tgt := 1792) hx hb dL_law_1359 (by decide) (fun c_7 => ?_) (fun c_7 => absurd (by decide) c_7)
  exact law_tail C0 hS (Nat.le_of_ble_eq_true rfl) (Nat.le_of_ble_eq_true rfl) (lv_sub hl [0, 1, 2, 3, 4] rfl)

theorem dL_law_1364 : decode cL_law 1364 = .ok (.aload_n 1, 1) := by decide +kernel
theorem dL_law_1365 : decode cL_law 1365 = .ok (.aload_n 0, 1) := by decide +kernel
theorem dL_law_1366 : decode cL_law 1366 = .ok (.iload 4, 2) := by decide +kernel
theorem dL_law_1368 : decode cL_law 1368 = .ok (.iconst 1, 1) := by decide +kernel
theorem dL_law_1369 : decode cL_law 1369 = .ok (.iadd, 1) := by decide +kernel
theorem dL_law_1370 : decode cL_law 1370 = .ok (.iaload, 1) := by decide +kernel
theorem dL_law_1371 : decode cL_law 1371 = .ok (.invokevirtual 110, 3) := by decide +kernel
theorem dL_law_1374 : decode cL_law 1374 = .ok (.aload_n 2, 1) := by decide +kernel
theorem dL_law_1375 : decode cL_law 1375 = .ok (.aload_n 0, 1) := by decide +kernel
theorem dL_law_1376 : decode cL_law 1376 = .ok (.iload 4, 2) := by decide +kernel
theorem dL_law_1378 : decode cL_law 1378 = .ok (.iconst 1, 1) := by decide +kernel
theorem dL_law_1379 : decode cL_law 1379 = .ok (.iadd, 1) := by decide +kernel
theorem dL_law_1380 : decode cL_law 1380 = .ok (.iaload, 1) := by decide +kernel
theorem dL_law_1381 : decode cL_law 1381 = .ok (.invokevirtual 113, 3) := by decide +kernel
theorem dL_law_1384 : decode cL_law 1384 = .ok (.if_icmp .eq 408, 3) := by decide +kernel
set_option maxHeartbeats 4000000 in
set_option maxRecDepth 100000 in
theorem law_18 {p : Program} {l : Launch} {e : Env} {s : State} {m : MethodId} {below : List Frame} {meth : Method} {c : Code} {b : Nat} {xs : Nat → Int32} {dC : Nat → ClassId} {dI : Nat → Nat → Nat} {ad : Nat → Nat} {h0 : Nat} {g0 : Nat} {o0 : Nat} {jT : Nat} {jR : Nat} {e2 : Nat} {jL : Nat} {jU : Nat} {jF : Nat} {e6 : Nat} {jN : Nat} {jA : Nat} {e9 : Nat} {t0 : Nat} {r1 : Nat} {r2 : Nat} {l0 : Nat} {m0 : Nat} {f0 : Nat} {f1 : Nat} {f2 : Nat} {f3 : Nat} {f4 : Nat} {n0 : Nat} {n1 : Nat} {n2 : Nat} {n3 : Nat} {n4 : Nat} {a0 : Nat} {a1 : Nat} {a2 : Nat} {a3 : Nat} {cC : ClassId} {cL : ClassId} {cM : ClassId} {z0 : ClassId} {z1 : ClassId} {z2 : ClassId} {z4 : ClassId} {b1 : Nat} {b2 : Nat} {b3 : Nat} {b4 : Nat} {b19 : Nat} {b20 : Nat} {b21 : Nat} {b22 : Nat} {b23 : Nat} {b24 : Nat} {b25 : Nat} {b28 : Nat} {b29 : Nat} {b30 : Nat} {b31 : Nat} {b32 : Nat} {b33 : Nat} {b34 : Nat} {b35 : Nat} {b36 : Nat} {b40 : Nat} {b41 : Nat} {b42 : Nat} {b43 : Nat} {b44 : Nat} {b46 : Nat} {b47 : Nat} {b48 : Nat} {b49 : Nat} {b50 : Nat} {y1 : ClassId} {y19 : ClassId} {y20 : ClassId} {y21 : ClassId} {y22 : ClassId} {y23 : ClassId} {y24 : ClassId} {y25 : ClassId} {cO : ClassId} (C0 : lw_At p s m meth c b 7 xs) (hXX : kLaw ad s) {H : Heap} {locs : List Loc} (hK : va_K (dC, dI) vwCl [(cC, .char), (cL, .object RX6), (cM, .object RX6), (z0, .int), (z1, .int), (z2, .int), (z4, .int), (y1, .byte), (y19, .int), (y20, .int), (y21, .int), (y22, .int), (y23, .int), (y24, .int), (y25, .boolean), (cO, .long)] s) (hP : va_P (dC, dI) vwCl [(h0, .inr (9, [.ref jT, .ref jR, .ref e2, .ref jL, .ref jU, .ref jF, .ref e6, .ref jN, .ref jA, .ref e9])), (jT, .inr (8, [.ref t0, .int 0])), (t0, .inl (cC, 120, .inl (fun _ => 0))), (jR, .inr (4, [.ref jT, .ref r1, .ref r2, .int 0, .int 0, .int 0, .ref (ad 0), .ref (ad 0)])), (jL, .inr (7, [.ref l0, .int 0])), (l0, .inl (cL, 6, .inr (.inr (.inr (.inr (fun _ => none)))))), (jU, .inr (7, [.ref m0, .int 0])), (m0, .inl (cM, 8, .inr (.inr (.inr (.inr (fun _ => none)))))), (jF, .inr (2, [.ref f0, .ref f1, .ref f2, .ref f3, .ref f4, .int 0, .int 0, .int 0])), (f0, .inl (z0, 10, .inl (fun _ => 0))), (f1, .inl (z1, 10, .inl (fun _ => 0))), (f2, .inl (z2, 10, .inl (fun _ => 0))), (f4, .inl (z4, 4, .inl (fun _ => 0))), (jN, .inr (3, [.ref n0, .ref n1, .ref n2, .ref n3, .ref n4, .int 0])), (jA, .inr (0, [.ref a0, .ref a1, .ref a2, .ref a3, .int 0])), (g0, .inr (10, [.int 0, .ref b1, .ref b2, .ref b3, .ref b4, .ref b1, .int 0, .int 0, .int 0, .int 0, .int 0, .int 0, .int 0, .int 0, .int 0, .int 0, .ref (ad 5), .ref (ad 7), .int 0, .ref b19, .ref b20, .ref b21, .ref b22, .ref b23, .ref b24, .ref b25, .int 0, .int 0, .ref b28, .ref b29, .ref b30, .ref b31, .ref b32, .ref b33, .ref b34, .ref b35, .ref b36, .int 0, .int 0, .long 0, .ref b40, .ref b41, .ref b42, .ref b43, .ref b44, .int 0, .ref b46, .ref b47, .ref b48, .ref b49, .ref b50, .int 0])), (b1, .inl (y1, 120, .inl (fun _ => 0))), (b19, .inl (y19, 10, .inl (fun _ => 0))), (b20, .inl (y20, 10, .inl (fun _ => 0))), (b21, .inl (y21, 10, .inl (fun _ => 0))), (b22, .inl (y22, 10, .inl (fun _ => 0))), (b23, .inl (y23, 10, .inl (fun _ => 0))), (b24, .inl (y24, 4, .inl (fun _ => 0))), (b25, .inl (y25, 10, .inl (fun _ => 0))), (o0, .inl (cO, 1, .inr (.inl (fun _ => 0))))] H) (hD : va_D (fun q : Nat => s.heap.size ≤ q) [(h0, .inr (9, [.ref jT, .ref jR, .ref e2, .ref jL, .ref jU, .ref jF, .ref e6, .ref jN, .ref jA, .ref e9])), (jT, .inr (8, [.ref t0, .int 0])), (t0, .inl (cC, 120, .inl (fun _ => 0))), (jR, .inr (4, [.ref jT, .ref r1, .ref r2, .int 0, .int 0, .int 0, .ref (ad 0), .ref (ad 0)])), (jL, .inr (7, [.ref l0, .int 0])), (l0, .inl (cL, 6, .inr (.inr (.inr (.inr (fun _ => none)))))), (jU, .inr (7, [.ref m0, .int 0])), (m0, .inl (cM, 8, .inr (.inr (.inr (.inr (fun _ => none)))))), (jF, .inr (2, [.ref f0, .ref f1, .ref f2, .ref f3, .ref f4, .int 0, .int 0, .int 0])), (f0, .inl (z0, 10, .inl (fun _ => 0))), (f1, .inl (z1, 10, .inl (fun _ => 0))), (f2, .inl (z2, 10, .inl (fun _ => 0))), (f4, .inl (z4, 4, .inl (fun _ => 0))), (jN, .inr (3, [.ref n0, .ref n1, .ref n2, .ref n3, .ref n4, .int 0])), (jA, .inr (0, [.ref a0, .ref a1, .ref a2, .ref a3, .int 0])), (g0, .inr (10, [.int 0, .ref b1, .ref b2, .ref b3, .ref b4, .ref b1, .int 0, .int 0, .int 0, .int 0, .int 0, .int 0, .int 0, .int 0, .int 0, .int 0, .ref (ad 5), .ref (ad 7), .int 0, .ref b19, .ref b20, .ref b21, .ref b22, .ref b23, .ref b24, .ref b25, .int 0, .int 0, .ref b28, .ref b29, .ref b30, .ref b31, .ref b32, .ref b33, .ref b34, .ref b35, .ref b36, .int 0, .int 0, .long 0, .ref b40, .ref b41, .ref b42, .ref b43, .ref b44, .int 0, .ref b46, .ref b47, .ref b48, .ref b49, .ref b50, .int 0])), (b1, .inl (y1, 120, .inl (fun _ => 0))), (b19, .inl (y19, 10, .inl (fun _ => 0))), (b20, .inl (y20, 10, .inl (fun _ => 0))), (b21, .inl (y21, 10, .inl (fun _ => 0))), (b22, .inl (y22, 10, .inl (fun _ => 0))), (b23, .inl (y23, 10, .inl (fun _ => 0))), (b24, .inl (y24, 4, .inl (fun _ => 0))), (b25, .inl (y25, 10, .inl (fun _ => 0))), (o0, .inl (cO, 1, .inr (.inl (fun _ => 0))))]) (hS : va_S (fun q : Nat => s.heap.size ≤ q) s.heap H locs) {ls : Array Slot} (hl : lv_has ls 7 [(4, .int 0), (3, .ref o0), (2, .ref g0), (1, .ref h0), (0, .ref b)]) (hlt : l.stackTraces = false) : W p l e room_1 s m #[Value.ref b] below meth c H locs 76 3048 (lw_Z below #[Value.ref b] s) (F0 m 1364 ls []) := by
  obtain ⟨hx, hb, hr, hml, hown, hts, hX, hbl, hlocks, hgv⟩ := id C0
  have hown : s.vm.findClass RL = some m.cls := hown
  have hA : ∀ q : Nat, s.heap.size ≤ q → (fun q : Nat => s.heap.size ≤ q) q := fun _ h => h
  have hbA : ¬ (fun q : Nat => s.heap.size ≤ q) b := Nat.not_le.mpr hbl
  refine lv_aload_n hx hb dL_law_1364 rfl (lv_at hl 3 rfl) ?_
  refine lv_aload_n hx hb dL_law_1365 rfl (lv_at hl 4 rfl) ?_
  refine lv_iload hx hb dL_law_1366 (lv_at hl 0 rfl) ?_
  refine lv_iconst (v := 1) hx hb dL_law_1368 (by decide) ?_
  refine lv_iadd hx hb dL_law_1369 ?_
  refine lv_topi (fun y_1 ey_1 => ?_)
  obtain rfl : y_1 = 1 := ey_1.trans (by decide)
  refine va_sld hx hb hX hbl hbA hS (by unfold vp_in; decide) dL_law_1370 ?_
  have hPc := hP.sub (ws' := [(h0, .inr (9, [.ref jT, .ref jR, .ref e2, .ref jL, .ref jU, .ref jF, .ref e6, .ref jN, .ref jA, .ref e9])), (jU, .inr (7, [.ref m0, .int 0]))]) [0, 6] rfl
  have hKc := hK.sub (tys' := []) [] rfl
  refine vp_callSi (va_runV (As := [.int (xs (Int32.toNatClampNeg 1))]) (rest := []) ⟨hx, hb, hml, hown, hts⟩ (c_bars9 l dC dI h0 jU (.ref jT : Value) (.ref jR : Value) (.ref e2 : Value) (.ref jL : Value) (.ref jF : Value) (.ref e6 : Value) (.ref jN : Value) (.ref jA : Value) (.ref e9 : Value) (.ref m0 : Value) (xs (Int32.toNatClampNeg 1))) (cwV 1 hts (kG (List.forall_mem_cons.mpr ⟨tw_889, (List.forall_mem_cons.mpr ⟨tw_890, (List.forall_mem_cons.mpr ⟨tw_891, (List.forall_mem_cons.mpr ⟨tw_75, (fun _ h => absurd h List.not_mem_nil)⟩)⟩)⟩)⟩) (by decide +kernel) in_w_c_bars9 gw_c_bars9) rfl rfl rfl (by decide +kernel) ⟨(Nat.le_of_ble_eq_true rfl), (Nat.le_of_ble_eq_true rfl)⟩) (kR_V kT_blind kT_give (va_recv hKc hPc (ci := 9) (q0 := 0) rfl rfl) hPc hKc) rfl rfl hl.1 rfl (lv_room (Nat.le_of_ble_eq_true rfl)) dL_law_1371 ⟨(Nat.le_of_ble_eq_true rfl), (Nat.le_of_ble_eq_true rfl)⟩).run (fun r_2 hw => ?_)
  obtain rfl : r_2 = (-1) := hw
  refine lv_aload_n hx hb dL_law_1374 rfl (lv_at hl 2 rfl) ?_
  refine lv_aload_n hx hb dL_law_1375 rfl (lv_at hl 4 rfl) ?_
  refine lv_iload hx hb dL_law_1376 (lv_at hl 0 rfl) ?_
  refine lv_iconst (v := 1) hx hb dL_law_1378 (by decide) ?_
  refine lv_iadd hx hb dL_law_1379 ?_
  refine lv_topi (fun y_3 ey_3 => ?_)
  obtain rfl : y_3 = 1 := ey_3.trans (by decide)
  refine va_sld hx hb hX hbl hbA hS (by unfold vp_in; decide) dL_law_1380 ?_
  have hPc := hP.sub (ws' := [(g0, .inr (10, [.int 0, .ref b1, .ref b2, .ref b3, .ref b4, .ref b1, .int 0, .int 0, .int 0, .int 0, .int 0, .int 0, .int 0, .int 0, .int 0, .int 0, .ref (ad 5), .ref (ad 7), .int 0, .ref b19, .ref b20, .ref b21, .ref b22, .ref b23, .ref b24, .ref b25, .int 0, .int 0, .ref b28, .ref b29, .ref b30, .ref b31, .ref b32, .ref b33, .ref b34, .ref b35, .ref b36, .int 0, .int 0, .long 0, .ref b40, .ref b41, .ref b42, .ref b43, .ref b44, .int 0, .ref b46, .ref b47, .ref b48, .ref b49, .ref b50, .int 0]))]) [15] rfl
  have hKc := hK.sub (tys' := []) [] rfl
  have hDc := hD.sub (ws' := [(g0, .inr (10, [.int 0, .ref b1, .ref b2, .ref b3, .ref b4, .ref b1, .int 0, .int 0, .int 0, .int 0, .int 0, .int 0, .int 0, .int 0, .int 0, .int 0, .ref (ad 5), .ref (ad 7), .int 0, .ref b19, .ref b20, .ref b21, .ref b22, .ref b23, .ref b24, .ref b25, .int 0, .int 0, .ref b28, .ref b29, .ref b30, .ref b31, .ref b32, .ref b33, .ref b34, .ref b35, .ref b36, .int 0, .int 0, .long 0, .ref b40, .ref b41, .ref b42, .ref b43, .ref b44, .int 0, .ref b46, .ref b47, .ref b48, .ref b49, .ref b50, .int 0]))]) [15] (by decide) rfl
  have hFc := va_free (wc := [(g0, .inr (10, [.int 0, .ref b1, .ref b2, .ref b3, .ref b4, .ref b1, .int 0, .int 0, .int 0, .int 0, .int 0, .int 0, .int 0, .int 0, .int 0, .int 0, .ref (ad 5), .ref (ad 7), .int 0, .ref b19, .ref b20, .ref b21, .ref b22, .ref b23, .ref b24, .ref b25, .int 0, .int 0, .ref b28, .ref b29, .ref b30, .ref b31, .ref b32, .ref b33, .ref b34, .ref b35, .ref b36, .int 0, .int 0, .long 0, .ref b40, .ref b41, .ref b42, .ref b43, .ref b44, .int 0, .ref b46, .ref b47, .ref b48, .ref b49, .ref b50, .int 0]))]) hD hS hA [15] rfl
  refine va_calli (va_runV (As := [.int (xs (Int32.toNatClampNeg 1))]) (rest := [.int (-1)]) ⟨hx, hb, hml, hown, hts⟩ (c_bars10 l dC dI g0 (.int 0 : Value) (.ref b1 : Value) (.ref b2 : Value) (.ref b3 : Value) (.ref b4 : Value) (.ref b1 : Value) (.int 0 : Value) (.int 0 : Value) (.int 0 : Value) (.int 0 : Value) (.int 0 : Value) (.int 0 : Value) (.int 0 : Value) (.int 0 : Value) (.int 0 : Value) (.ref (ad 5) : Value) (.ref (ad 7) : Value) (.int 0 : Value) (.ref b19 : Value) (.ref b20 : Value) (.ref b21 : Value) (.ref b22 : Value) (.ref b23 : Value) (.ref b24 : Value) (.ref b25 : Value) (.int 0 : Value) (.int 0 : Value) (.ref b28 : Value) (.ref b29 : Value) (.ref b30 : Value) (.ref b31 : Value) (.ref b32 : Value) (.ref b33 : Value) (.ref b34 : Value) (.ref b35 : Value) (.ref b36 : Value) (.int 0 : Value) (.int 0 : Value) (.long 0 : Value) (.ref b40 : Value) (.ref b41 : Value) (.ref b42 : Value) (.ref b43 : Value) (.ref b44 : Value) (.int 0 : Value) (.ref b46 : Value) (.ref b47 : Value) (.ref b48 : Value) (.ref b49 : Value) (.ref b50 : Value) (.int 0 : Value) (xs (Int32.toNatClampNeg 1)) H.size) (cwV 1 hts (kG (List.forall_mem_cons.mpr ⟨tw_1515, (List.forall_mem_cons.mpr ⟨tw_1516, (List.forall_mem_cons.mpr ⟨tw_1517, (List.forall_mem_cons.mpr ⟨tw_85, (fun _ h => absurd h List.not_mem_nil)⟩)⟩)⟩)⟩) (by decide +kernel) in_w_c_bars10 gw_c_bars10) rfl rfl rfl (by decide +kernel) ⟨(Nat.le_of_ble_eq_true rfl), (Nat.le_of_ble_eq_true rfl)⟩) (kW_V kT_blind kT_give (va_recv hKc hPc (ci := 10) (q0 := 0) rfl rfl) hPc hKc hDc) rfl rfl hl.1 rfl (lv_room (Nat.le_of_ble_eq_true rfl)) dL_law_1381 ⟨(Nat.le_of_ble_eq_true rfl), (Nat.le_of_ble_eq_true rfl)⟩) hS (fun q _ h => hFc q h) hFc (fun r_4 u t H1 locs ht hvm hw hB hz1 hk1 hS => ?_)
  have hP1 : va_P (dC, dI) vwCl [] H1 := fun k q h => by simp at h
  have hD1 : va_D (va_A [(g0, .inr (10, [.int 0, .ref b1, .ref b2, .ref b3, .ref b4, .ref b1, .int 0, .int 0, .int 0, .int 0, .int 0, .int 0, .int 0, .int 0, .int 0, .int 0, .ref (ad 5), .ref (ad 7), .int 0, .ref b19, .ref b20, .ref b21, .ref b22, .ref b23, .ref b24, .ref b25, .int 0, .int 0, .ref b28, .ref b29, .ref b30, .ref b31, .ref b32, .ref b33, .ref b34, .ref b35, .ref b36, .int 0, .int 0, .long 0, .ref b40, .ref b41, .ref b42, .ref b43, .ref b44, .int 0, .ref b46, .ref b47, .ref b48, .ref b49, .ref b50, .int 0]))] H.size) [] := ⟨fun i j p q h => by simp at h, fun k q h => by simp at h⟩
  try dsimp only at hw
  obtain ⟨hP, hD⟩ := va_join (wr := [(h0, .inr (9, [.ref jT, .ref jR, .ref e2, .ref jL, .ref jU, .ref jF, .ref e6, .ref jN, .ref jA, .ref e9])), (jT, .inr (8, [.ref t0, .int 0])), (t0, .inl (cC, 120, .inl (fun _ => 0))), (jR, .inr (4, [.ref jT, .ref r1, .ref r2, .int 0, .int 0, .int 0, .ref (ad 0), .ref (ad 0)])), (jL, .inr (7, [.ref l0, .int 0])), (l0, .inl (cL, 6, .inr (.inr (.inr (.inr (fun _ => none)))))), (jU, .inr (7, [.ref m0, .int 0])), (m0, .inl (cM, 8, .inr (.inr (.inr (.inr (fun _ => none)))))), (jF, .inr (2, [.ref f0, .ref f1, .ref f2, .ref f3, .ref f4, .int 0, .int 0, .int 0])), (f0, .inl (z0, 10, .inl (fun _ => 0))), (f1, .inl (z1, 10, .inl (fun _ => 0))), (f2, .inl (z2, 10, .inl (fun _ => 0))), (f4, .inl (z4, 4, .inl (fun _ => 0))), (jN, .inr (3, [.ref n0, .ref n1, .ref n2, .ref n3, .ref n4, .int 0])), (jA, .inr (0, [.ref a0, .ref a1, .ref a2, .ref a3, .int 0])), (b1, .inl (y1, 120, .inl (fun _ => 0))), (b19, .inl (y19, 10, .inl (fun _ => 0))), (b20, .inl (y20, 10, .inl (fun _ => 0))), (b21, .inl (y21, 10, .inl (fun _ => 0))), (b22, .inl (y22, 10, .inl (fun _ => 0))), (b23, .inl (y23, 10, .inl (fun _ => 0))), (b24, .inl (y24, 4, .inl (fun _ => 0))), (b25, .inl (y25, 10, .inl (fun _ => 0))), (o0, .inl (cO, 1, .inr (.inl (fun _ => 0))))]) (w1 := []) hP hD [15] [0, 1, 2, 3, 4, 5, 6, 7, 8, 9, 10, 11, 12, 13, 14, 16, 17, 18, 19, 20, 21, 22, 23, 24] rfl rfl (by decide) (by decide) hk1 hFc hP1 hD1
  generalize H1 = H at hP hS ⊢
  have hP : va_P (dC, dI) vwCl [(h0, .inr (9, [.ref jT, .ref jR, .ref e2, .ref jL, .ref jU, .ref jF, .ref e6, .ref jN, .ref jA, .ref e9])), (jT, .inr (8, [.ref t0, .int 0])), (t0, .inl (cC, 120, .inl (fun _ => 0))), (jR, .inr (4, [.ref jT, .ref r1, .ref r2, .int 0, .int 0, .int 0, .ref (ad 0), .ref (ad 0)])), (jL, .inr (7, [.ref l0, .int 0])), (l0, .inl (cL, 6, .inr (.inr (.inr (.inr (fun _ => none)))))), (jU, .inr (7, [.ref m0, .int 0])), (m0, .inl (cM, 8, .inr (.inr (.inr (.inr (fun _ => none)))))), (jF, .inr (2, [.ref f0, .ref f1, .ref f2, .ref f3, .ref f4, .int 0, .int 0, .int 0])), (f0, .inl (z0, 10, .inl (fun _ => 0))), (f1, .inl (z1, 10, .inl (fun _ => 0))), (f2, .inl (z2, 10, .inl (fun _ => 0))), (f4, .inl (z4, 4, .inl (fun _ => 0))), (jN, .inr (3, [.ref n0, .ref n1, .ref n2, .ref n3, .ref n4, .int 0])), (jA, .inr (0, [.ref a0, .ref a1, .ref a2, .ref a3, .int 0])), (b1, .inl (y1, 120, .inl (fun _ => 0))), (b19, .inl (y19, 10, .inl (fun _ => 0))), (b20, .inl (y20, 10, .inl (fun _ => 0))), (b21, .inl (y21, 10, .inl (fun _ => 0))), (b22, .inl (y22, 10, .inl (fun _ => 0))), (b23, .inl (y23, 10, .inl (fun _ => 0))), (b24, .inl (y24, 4, .inl (fun _ => 0))), (b25, .inl (y25, 10, .inl (fun _ => 0))), (o0, .inl (cO, 1, .inr (.inl (fun _ => 0))))] H := hP
  have hD : va_D (fun q : Nat => s.heap.size ≤ q) [(h0, .inr (9, [.ref jT, .ref jR, .ref e2, .ref jL, .ref jU, .ref jF, .ref e6, .ref jN, .ref jA, .ref e9])), (jT, .inr (8, [.ref t0, .int 0])), (t0, .inl (cC, 120, .inl (fun _ => 0))), (jR, .inr (4, [.ref jT, .ref r1, .ref r2, .int 0, .int 0, .int 0, .ref (ad 0), .ref (ad 0)])), (jL, .inr (7, [.ref l0, .int 0])), (l0, .inl (cL, 6, .inr (.inr (.inr (.inr (fun _ => none)))))), (jU, .inr (7, [.ref m0, .int 0])), (m0, .inl (cM, 8, .inr (.inr (.inr (.inr (fun _ => none)))))), (jF, .inr (2, [.ref f0, .ref f1, .ref f2, .ref f3, .ref f4, .int 0, .int 0, .int 0])), (f0, .inl (z0, 10, .inl (fun _ => 0))), (f1, .inl (z1, 10, .inl (fun _ => 0))), (f2, .inl (z2, 10, .inl (fun _ => 0))), (f4, .inl (z4, 4, .inl (fun _ => 0))), (jN, .inr (3, [.ref n0, .ref n1, .ref n2, .ref n3, .ref n4, .int 0])), (jA, .inr (0, [.ref a0, .ref a1, .ref a2, .ref a3, .int 0])), (b1, .inl (y1, 120, .inl (fun _ => 0))), (b19, .inl (y19, 10, .inl (fun _ => 0))), (b20, .inl (y20, 10, .inl (fun _ => 0))), (b21, .inl (y21, 10, .inl (fun _ => 0))), (b22, .inl (y22, 10, .inl (fun _ => 0))), (b23, .inl (y23, 10, .inl (fun _ => 0))), (b24, .inl (y24, 4, .inl (fun _ => 0))), (b25, .inl (y25, 10, .inl (fun _ => 0))), (o0, .inl (cO, 1, .inr (.inl (fun _ => 0))))] := hD
  obtain rfl : r_4 = (-1) := hw
  refine lv_icmp_eq (tgt := 1792) hx hb dL_law_1384 (by decide) (fun c_5 => ?_) (fun c_5 => absurd (by decide) c_5)
  exact law_tail C0 hS (Nat.le_of_ble_eq_true rfl) (Nat.le_of_ble_eq_true rfl) (lv_sub hl [0, 1, 2, 3, 4] rfl)

theorem dL_law_1389 : decode cL_law 1389 = .ok (.aload_n 1, 1) := by decide +kernel
theorem dL_law_1390 : decode cL_law 1390 = .ok (.aload_n 0, 1) := by decide +kernel
theorem dL_law_1391 : decode cL_law 1391 = .ok (.iload 4, 2) := by decide +kernel
theorem dL_law_1393 : decode cL_law 1393 = .ok (.iconst 1, 1) := by decide +kernel
theorem dL_law_1394 : decode cL_law 1394 = .ok (.iadd, 1) := by decide +kernel
theorem dL_law_1395 : decode cL_law 1395 = .ok (.iaload, 1) := by decide +kernel
theorem dL_law_1396 : decode cL_law 1396 = .ok (.aload_n 0, 1) := by decide +kernel
theorem dL_law_1397 : decode cL_law 1397 = .ok (.iload 4, 2) := by decide +kernel
theorem dL_law_1399 : decode cL_law 1399 = .ok (.iconst 2, 1) := by decide +kernel
theorem dL_law_1400 : decode cL_law 1400 = .ok (.iadd, 1) := by decide +kernel
theorem dL_law_1401 : decode cL_law 1401 = .ok (.iaload, 1) := by decide +kernel
theorem dL_law_1402 : decode cL_law 1402 = .ok (.invokevirtual 114, 3) := by decide +kernel
theorem dL_law_1405 : decode cL_law 1405 = .ok (.aload_n 2, 1) := by decide +kernel
theorem dL_law_1406 : decode cL_law 1406 = .ok (.aload_n 0, 1) := by decide +kernel
theorem dL_law_1407 : decode cL_law 1407 = .ok (.iload 4, 2) := by decide +kernel
theorem dL_law_1409 : decode cL_law 1409 = .ok (.iconst 1, 1) := by decide +kernel
theorem dL_law_1410 : decode cL_law 1410 = .ok (.iadd, 1) := by decide +kernel
theorem dL_law_1411 : decode cL_law 1411 = .ok (.iaload, 1) := by decide +kernel
theorem dL_law_1412 : decode cL_law 1412 = .ok (.aload_n 0, 1) := by decide +kernel
theorem dL_law_1413 : decode cL_law 1413 = .ok (.iload 4, 2) := by decide +kernel
theorem dL_law_1415 : decode cL_law 1415 = .ok (.iconst 2, 1) := by decide +kernel
theorem dL_law_1416 : decode cL_law 1416 = .ok (.iadd, 1) := by decide +kernel
theorem dL_law_1417 : decode cL_law 1417 = .ok (.iaload, 1) := by decide +kernel
theorem dL_law_1418 : decode cL_law 1418 = .ok (.invokevirtual 117, 3) := by decide +kernel
theorem dL_law_1421 : decode cL_law 1421 = .ok (.if_icmp .eq 371, 3) := by decide +kernel
set_option maxHeartbeats 4000000 in
set_option maxRecDepth 100000 in
theorem law_19 {p : Program} {l : Launch} {e : Env} {s : State} {m : MethodId} {below : List Frame} {meth : Method} {c : Code} {b : Nat} {xs : Nat → Int32} {dC : Nat → ClassId} {dI : Nat → Nat → Nat} {ad : Nat → Nat} {h0 : Nat} {g0 : Nat} {o0 : Nat} {jT : Nat} {jR : Nat} {e2 : Nat} {jL : Nat} {jU : Nat} {jF : Nat} {e6 : Nat} {jN : Nat} {jA : Nat} {e9 : Nat} {t0 : Nat} {r1 : Nat} {r2 : Nat} {l0 : Nat} {m0 : Nat} {f0 : Nat} {f1 : Nat} {f2 : Nat} {f3 : Nat} {f4 : Nat} {n0 : Nat} {n1 : Nat} {n2 : Nat} {n3 : Nat} {n4 : Nat} {a0 : Nat} {a1 : Nat} {a2 : Nat} {a3 : Nat} {cC : ClassId} {cL : ClassId} {cM : ClassId} {z0 : ClassId} {z1 : ClassId} {z2 : ClassId} {z4 : ClassId} {b1 : Nat} {b2 : Nat} {b3 : Nat} {b4 : Nat} {b19 : Nat} {b20 : Nat} {b21 : Nat} {b22 : Nat} {b23 : Nat} {b24 : Nat} {b25 : Nat} {b28 : Nat} {b29 : Nat} {b30 : Nat} {b31 : Nat} {b32 : Nat} {b33 : Nat} {b34 : Nat} {b35 : Nat} {b36 : Nat} {b40 : Nat} {b41 : Nat} {b42 : Nat} {b43 : Nat} {b44 : Nat} {b46 : Nat} {b47 : Nat} {b48 : Nat} {b49 : Nat} {b50 : Nat} {y1 : ClassId} {y19 : ClassId} {y20 : ClassId} {y21 : ClassId} {y22 : ClassId} {y23 : ClassId} {y24 : ClassId} {y25 : ClassId} {cO : ClassId} (C0 : lw_At p s m meth c b 7 xs) (hXX : kLaw ad s) {H : Heap} {locs : List Loc} (hK : va_K (dC, dI) vwCl [(cC, .char), (cL, .object RX6), (cM, .object RX6), (z0, .int), (z1, .int), (z2, .int), (z4, .int), (y1, .byte), (y19, .int), (y20, .int), (y21, .int), (y22, .int), (y23, .int), (y24, .int), (y25, .boolean), (cO, .long)] s) (hP : va_P (dC, dI) vwCl [(h0, .inr (9, [.ref jT, .ref jR, .ref e2, .ref jL, .ref jU, .ref jF, .ref e6, .ref jN, .ref jA, .ref e9])), (jT, .inr (8, [.ref t0, .int 0])), (t0, .inl (cC, 120, .inl (fun _ => 0))), (jR, .inr (4, [.ref jT, .ref r1, .ref r2, .int 0, .int 0, .int 0, .ref (ad 0), .ref (ad 0)])), (jL, .inr (7, [.ref l0, .int 0])), (l0, .inl (cL, 6, .inr (.inr (.inr (.inr (fun _ => none)))))), (jU, .inr (7, [.ref m0, .int 0])), (m0, .inl (cM, 8, .inr (.inr (.inr (.inr (fun _ => none)))))), (jF, .inr (2, [.ref f0, .ref f1, .ref f2, .ref f3, .ref f4, .int 0, .int 0, .int 0])), (f0, .inl (z0, 10, .inl (fun _ => 0))), (f1, .inl (z1, 10, .inl (fun _ => 0))), (f2, .inl (z2, 10, .inl (fun _ => 0))), (f4, .inl (z4, 4, .inl (fun _ => 0))), (jN, .inr (3, [.ref n0, .ref n1, .ref n2, .ref n3, .ref n4, .int 0])), (jA, .inr (0, [.ref a0, .ref a1, .ref a2, .ref a3, .int 0])), (g0, .inr (10, [.int 0, .ref b1, .ref b2, .ref b3, .ref b4, .ref b1, .int 0, .int 0, .int 0, .int 0, .int 0, .int 0, .int 0, .int 0, .int 0, .int 0, .ref (ad 5), .ref (ad 7), .int 0, .ref b19, .ref b20, .ref b21, .ref b22, .ref b23, .ref b24, .ref b25, .int 0, .int 0, .ref b28, .ref b29, .ref b30, .ref b31, .ref b32, .ref b33, .ref b34, .ref b35, .ref b36, .int 0, .int 0, .long 0, .ref b40, .ref b41, .ref b42, .ref b43, .ref b44, .int 0, .ref b46, .ref b47, .ref b48, .ref b49, .ref b50, .int 0])), (b1, .inl (y1, 120, .inl (fun _ => 0))), (b19, .inl (y19, 10, .inl (fun _ => 0))), (b20, .inl (y20, 10, .inl (fun _ => 0))), (b21, .inl (y21, 10, .inl (fun _ => 0))), (b22, .inl (y22, 10, .inl (fun _ => 0))), (b23, .inl (y23, 10, .inl (fun _ => 0))), (b24, .inl (y24, 4, .inl (fun _ => 0))), (b25, .inl (y25, 10, .inl (fun _ => 0))), (o0, .inl (cO, 1, .inr (.inl (fun _ => 0))))] H) (hD : va_D (fun q : Nat => s.heap.size ≤ q) [(h0, .inr (9, [.ref jT, .ref jR, .ref e2, .ref jL, .ref jU, .ref jF, .ref e6, .ref jN, .ref jA, .ref e9])), (jT, .inr (8, [.ref t0, .int 0])), (t0, .inl (cC, 120, .inl (fun _ => 0))), (jR, .inr (4, [.ref jT, .ref r1, .ref r2, .int 0, .int 0, .int 0, .ref (ad 0), .ref (ad 0)])), (jL, .inr (7, [.ref l0, .int 0])), (l0, .inl (cL, 6, .inr (.inr (.inr (.inr (fun _ => none)))))), (jU, .inr (7, [.ref m0, .int 0])), (m0, .inl (cM, 8, .inr (.inr (.inr (.inr (fun _ => none)))))), (jF, .inr (2, [.ref f0, .ref f1, .ref f2, .ref f3, .ref f4, .int 0, .int 0, .int 0])), (f0, .inl (z0, 10, .inl (fun _ => 0))), (f1, .inl (z1, 10, .inl (fun _ => 0))), (f2, .inl (z2, 10, .inl (fun _ => 0))), (f4, .inl (z4, 4, .inl (fun _ => 0))), (jN, .inr (3, [.ref n0, .ref n1, .ref n2, .ref n3, .ref n4, .int 0])), (jA, .inr (0, [.ref a0, .ref a1, .ref a2, .ref a3, .int 0])), (g0, .inr (10, [.int 0, .ref b1, .ref b2, .ref b3, .ref b4, .ref b1, .int 0, .int 0, .int 0, .int 0, .int 0, .int 0, .int 0, .int 0, .int 0, .int 0, .ref (ad 5), .ref (ad 7), .int 0, .ref b19, .ref b20, .ref b21, .ref b22, .ref b23, .ref b24, .ref b25, .int 0, .int 0, .ref b28, .ref b29, .ref b30, .ref b31, .ref b32, .ref b33, .ref b34, .ref b35, .ref b36, .int 0, .int 0, .long 0, .ref b40, .ref b41, .ref b42, .ref b43, .ref b44, .int 0, .ref b46, .ref b47, .ref b48, .ref b49, .ref b50, .int 0])), (b1, .inl (y1, 120, .inl (fun _ => 0))), (b19, .inl (y19, 10, .inl (fun _ => 0))), (b20, .inl (y20, 10, .inl (fun _ => 0))), (b21, .inl (y21, 10, .inl (fun _ => 0))), (b22, .inl (y22, 10, .inl (fun _ => 0))), (b23, .inl (y23, 10, .inl (fun _ => 0))), (b24, .inl (y24, 4, .inl (fun _ => 0))), (b25, .inl (y25, 10, .inl (fun _ => 0))), (o0, .inl (cO, 1, .inr (.inl (fun _ => 0))))]) (hS : va_S (fun q : Nat => s.heap.size ≤ q) s.heap H locs) {ls : Array Slot} (hl : lv_has ls 7 [(4, .int 0), (3, .ref o0), (2, .ref g0), (1, .ref h0), (0, .ref b)]) (hlt : l.stackTraces = false) : W p l e room_1 s m #[Value.ref b] below meth c H locs 76 3048 (lw_Z below #[Value.ref b] s) (F0 m 1389 ls []) := by
  obtain ⟨hx, hb, hr, hml, hown, hts, hX, hbl, hlocks, hgv⟩ := id C0
  have hown : s.vm.findClass RL = some m.cls := hown
  have hA : ∀ q : Nat, s.heap.size ≤ q → (fun q : Nat => s.heap.size ≤ q) q := fun _ h => h
  have hbA : ¬ (fun q : Nat => s.heap.size ≤ q) b := Nat.not_le.mpr hbl
  refine lv_aload_n hx hb dL_law_1389 rfl (lv_at hl 3 rfl) ?_
  refine lv_aload_n hx hb dL_law_1390 rfl (lv_at hl 4 rfl) ?_
  refine lv_iload hx hb dL_law_1391 (lv_at hl 0 rfl) ?_
  refine lv_iconst (v := 1) hx hb dL_law_1393 (by decide) ?_
  refine lv_iadd hx hb dL_law_1394 ?_
  refine lv_topi (fun y_1 ey_1 => ?_)
  obtain rfl : y_1 = 1 := ey_1.trans (by decide)
  refine va_sld hx hb hX hbl hbA hS (by unfold vp_in; decide) dL_law_1395 ?_
  refine lv_aload_n hx hb dL_law_1396 rfl (lv_at hl 4 rfl) ?_
  refine lv_iload hx hb dL_law_1397 (lv_at hl 0 rfl) ?_
  refine lv_iconst (v := 2) hx hb dL_law_1399 (by decide) ?_
  refine lv_iadd hx hb dL_law_1400 ?_
  refine lv_topi (fun y_2 ey_2 => ?_)
  obtain rfl : y_2 = 2 := ey_2.trans (by decide)
  refine va_sld hx hb hX hbl hbA hS (by unfold vp_in; decide) dL_law_1401 ?_
  have hPc := hP.sub (ws' := [(h0, .inr (9, [.ref jT, .ref jR, .ref e2, .ref jL, .ref jU, .ref jF, .ref e6, .ref jN, .ref jA, .ref e9])), (jU, .inr (7, [.ref m0, .int 0]))]) [0, 6] rfl
  have hKc := hK.sub (tys' := []) [] rfl
  refine vp_callSi (va_runV (As := [.int (xs (Int32.toNatClampNeg 1)), .int (xs (Int32.toNatClampNeg 2))]) (rest := []) ⟨hx, hb, hml, hown, hts⟩ (c_bolder9 l dC dI h0 jU (.ref jT : Value) (.ref jR : Value) (.ref e2 : Value) (.ref jL : Value) (.ref jF : Value) (.ref e6 : Value) (.ref jN : Value) (.ref jA : Value) (.ref e9 : Value) (.ref m0 : Value) (xs (Int32.toNatClampNeg 1)) (xs (Int32.toNatClampNeg 2))) (cwV 2 hts (kG (List.forall_mem_cons.mpr ⟨tw_903, (List.forall_mem_cons.mpr ⟨tw_904, (List.forall_mem_cons.mpr ⟨tw_905, (List.forall_mem_cons.mpr ⟨tw_75, (fun _ h => absurd h List.not_mem_nil)⟩)⟩)⟩)⟩) (by decide +kernel) in_w_c_bolder9 gw_c_bolder9) rfl rfl rfl (by decide +kernel) ⟨(Nat.le_of_ble_eq_true rfl), (Nat.le_of_ble_eq_true rfl)⟩) (kR_V kT_blind kT_give (va_recv hKc hPc (ci := 9) (q0 := 0) rfl rfl) hPc hKc) rfl rfl hl.1 rfl (lv_room (Nat.le_of_ble_eq_true rfl)) dL_law_1402 ⟨(Nat.le_of_ble_eq_true rfl), (Nat.le_of_ble_eq_true rfl)⟩).run (fun r_3 hw => ?_)
  obtain rfl : r_3 = (-1) := hw
  refine lv_aload_n hx hb dL_law_1405 rfl (lv_at hl 2 rfl) ?_
  refine lv_aload_n hx hb dL_law_1406 rfl (lv_at hl 4 rfl) ?_
  refine lv_iload hx hb dL_law_1407 (lv_at hl 0 rfl) ?_
  refine lv_iconst (v := 1) hx hb dL_law_1409 (by decide) ?_
  refine lv_iadd hx hb dL_law_1410 ?_
  refine lv_topi (fun y_4 ey_4 => ?_)
  obtain rfl : y_4 = 1 := ey_4.trans (by decide)
  refine va_sld hx hb hX hbl hbA hS (by unfold vp_in; decide) dL_law_1411 ?_
  refine lv_aload_n hx hb dL_law_1412 rfl (lv_at hl 4 rfl) ?_
  refine lv_iload hx hb dL_law_1413 (lv_at hl 0 rfl) ?_
  refine lv_iconst (v := 2) hx hb dL_law_1415 (by decide) ?_
  refine lv_iadd hx hb dL_law_1416 ?_
  refine lv_topi (fun y_5 ey_5 => ?_)
  obtain rfl : y_5 = 2 := ey_5.trans (by decide)
  refine va_sld hx hb hX hbl hbA hS (by unfold vp_in; decide) dL_law_1417 ?_
  have hPc := hP.sub (ws' := [(g0, .inr (10, [.int 0, .ref b1, .ref b2, .ref b3, .ref b4, .ref b1, .int 0, .int 0, .int 0, .int 0, .int 0, .int 0, .int 0, .int 0, .int 0, .int 0, .ref (ad 5), .ref (ad 7), .int 0, .ref b19, .ref b20, .ref b21, .ref b22, .ref b23, .ref b24, .ref b25, .int 0, .int 0, .ref b28, .ref b29, .ref b30, .ref b31, .ref b32, .ref b33, .ref b34, .ref b35, .ref b36, .int 0, .int 0, .long 0, .ref b40, .ref b41, .ref b42, .ref b43, .ref b44, .int 0, .ref b46, .ref b47, .ref b48, .ref b49, .ref b50, .int 0]))]) [15] rfl
  have hKc := hK.sub (tys' := []) [] rfl
  have hDc := hD.sub (ws' := [(g0, .inr (10, [.int 0, .ref b1, .ref b2, .ref b3, .ref b4, .ref b1, .int 0, .int 0, .int 0, .int 0, .int 0, .int 0, .int 0, .int 0, .int 0, .int 0, .ref (ad 5), .ref (ad 7), .int 0, .ref b19, .ref b20, .ref b21, .ref b22, .ref b23, .ref b24, .ref b25, .int 0, .int 0, .ref b28, .ref b29, .ref b30, .ref b31, .ref b32, .ref b33, .ref b34, .ref b35, .ref b36, .int 0, .int 0, .long 0, .ref b40, .ref b41, .ref b42, .ref b43, .ref b44, .int 0, .ref b46, .ref b47, .ref b48, .ref b49, .ref b50, .int 0]))]) [15] (by decide) rfl
  have hFc := va_free (wc := [(g0, .inr (10, [.int 0, .ref b1, .ref b2, .ref b3, .ref b4, .ref b1, .int 0, .int 0, .int 0, .int 0, .int 0, .int 0, .int 0, .int 0, .int 0, .int 0, .ref (ad 5), .ref (ad 7), .int 0, .ref b19, .ref b20, .ref b21, .ref b22, .ref b23, .ref b24, .ref b25, .int 0, .int 0, .ref b28, .ref b29, .ref b30, .ref b31, .ref b32, .ref b33, .ref b34, .ref b35, .ref b36, .int 0, .int 0, .long 0, .ref b40, .ref b41, .ref b42, .ref b43, .ref b44, .int 0, .ref b46, .ref b47, .ref b48, .ref b49, .ref b50, .int 0]))]) hD hS hA [15] rfl
  refine va_calli (va_runV (As := [.int (xs (Int32.toNatClampNeg 1)), .int (xs (Int32.toNatClampNeg 2))]) (rest := [.int (-1)]) ⟨hx, hb, hml, hown, hts⟩ (c_bolder10 l dC dI g0 (.int 0 : Value) (.ref b1 : Value) (.ref b2 : Value) (.ref b3 : Value) (.ref b4 : Value) (.ref b1 : Value) (.int 0 : Value) (.int 0 : Value) (.int 0 : Value) (.int 0 : Value) (.int 0 : Value) (.int 0 : Value) (.int 0 : Value) (.int 0 : Value) (.int 0 : Value) (.ref (ad 5) : Value) (.ref (ad 7) : Value) (.int 0 : Value) (.ref b19 : Value) (.ref b20 : Value) (.ref b21 : Value) (.ref b22 : Value) (.ref b23 : Value) (.ref b24 : Value) (.ref b25 : Value) (.int 0 : Value) (.int 0 : Value) (.ref b28 : Value) (.ref b29 : Value) (.ref b30 : Value) (.ref b31 : Value) (.ref b32 : Value) (.ref b33 : Value) (.ref b34 : Value) (.ref b35 : Value) (.ref b36 : Value) (.int 0 : Value) (.int 0 : Value) (.long 0 : Value) (.ref b40 : Value) (.ref b41 : Value) (.ref b42 : Value) (.ref b43 : Value) (.ref b44 : Value) (.int 0 : Value) (.ref b46 : Value) (.ref b47 : Value) (.ref b48 : Value) (.ref b49 : Value) (.ref b50 : Value) (.int 0 : Value) (xs (Int32.toNatClampNeg 1)) (xs (Int32.toNatClampNeg 2)) H.size) (cwV 2 hts (kG (List.forall_mem_cons.mpr ⟨tw_1529, (List.forall_mem_cons.mpr ⟨tw_1530, (List.forall_mem_cons.mpr ⟨tw_1531, (List.forall_mem_cons.mpr ⟨tw_85, (fun _ h => absurd h List.not_mem_nil)⟩)⟩)⟩)⟩) (by decide +kernel) in_w_c_bolder10 gw_c_bolder10) rfl rfl rfl (by decide +kernel) ⟨(Nat.le_of_ble_eq_true rfl), (Nat.le_of_ble_eq_true rfl)⟩) (kW_V kT_blind kT_give (va_recv hKc hPc (ci := 10) (q0 := 0) rfl rfl) hPc hKc hDc) rfl rfl hl.1 rfl (lv_room (Nat.le_of_ble_eq_true rfl)) dL_law_1418 ⟨(Nat.le_of_ble_eq_true rfl), (Nat.le_of_ble_eq_true rfl)⟩) hS (fun q _ h => hFc q h) hFc (fun r_6 u t H1 locs ht hvm hw hB hz1 hk1 hS => ?_)
  have hP1 : va_P (dC, dI) vwCl [] H1 := fun k q h => by simp at h
  have hD1 : va_D (va_A [(g0, .inr (10, [.int 0, .ref b1, .ref b2, .ref b3, .ref b4, .ref b1, .int 0, .int 0, .int 0, .int 0, .int 0, .int 0, .int 0, .int 0, .int 0, .int 0, .ref (ad 5), .ref (ad 7), .int 0, .ref b19, .ref b20, .ref b21, .ref b22, .ref b23, .ref b24, .ref b25, .int 0, .int 0, .ref b28, .ref b29, .ref b30, .ref b31, .ref b32, .ref b33, .ref b34, .ref b35, .ref b36, .int 0, .int 0, .long 0, .ref b40, .ref b41, .ref b42, .ref b43, .ref b44, .int 0, .ref b46, .ref b47, .ref b48, .ref b49, .ref b50, .int 0]))] H.size) [] := ⟨fun i j p q h => by simp at h, fun k q h => by simp at h⟩
  try dsimp only at hw
  obtain ⟨hP, hD⟩ := va_join (wr := [(h0, .inr (9, [.ref jT, .ref jR, .ref e2, .ref jL, .ref jU, .ref jF, .ref e6, .ref jN, .ref jA, .ref e9])), (jT, .inr (8, [.ref t0, .int 0])), (t0, .inl (cC, 120, .inl (fun _ => 0))), (jR, .inr (4, [.ref jT, .ref r1, .ref r2, .int 0, .int 0, .int 0, .ref (ad 0), .ref (ad 0)])), (jL, .inr (7, [.ref l0, .int 0])), (l0, .inl (cL, 6, .inr (.inr (.inr (.inr (fun _ => none)))))), (jU, .inr (7, [.ref m0, .int 0])), (m0, .inl (cM, 8, .inr (.inr (.inr (.inr (fun _ => none)))))), (jF, .inr (2, [.ref f0, .ref f1, .ref f2, .ref f3, .ref f4, .int 0, .int 0, .int 0])), (f0, .inl (z0, 10, .inl (fun _ => 0))), (f1, .inl (z1, 10, .inl (fun _ => 0))), (f2, .inl (z2, 10, .inl (fun _ => 0))), (f4, .inl (z4, 4, .inl (fun _ => 0))), (jN, .inr (3, [.ref n0, .ref n1, .ref n2, .ref n3, .ref n4, .int 0])), (jA, .inr (0, [.ref a0, .ref a1, .ref a2, .ref a3, .int 0])), (b1, .inl (y1, 120, .inl (fun _ => 0))), (b19, .inl (y19, 10, .inl (fun _ => 0))), (b20, .inl (y20, 10, .inl (fun _ => 0))), (b21, .inl (y21, 10, .inl (fun _ => 0))), (b22, .inl (y22, 10, .inl (fun _ => 0))), (b23, .inl (y23, 10, .inl (fun _ => 0))), (b24, .inl (y24, 4, .inl (fun _ => 0))), (b25, .inl (y25, 10, .inl (fun _ => 0))), (o0, .inl (cO, 1, .inr (.inl (fun _ => 0))))]) (w1 := []) hP hD [15] [0, 1, 2, 3, 4, 5, 6, 7, 8, 9, 10, 11, 12, 13, 14, 16, 17, 18, 19, 20, 21, 22, 23, 24] rfl rfl (by decide) (by decide) hk1 hFc hP1 hD1
  generalize H1 = H at hP hS ⊢
  have hP : va_P (dC, dI) vwCl [(h0, .inr (9, [.ref jT, .ref jR, .ref e2, .ref jL, .ref jU, .ref jF, .ref e6, .ref jN, .ref jA, .ref e9])), (jT, .inr (8, [.ref t0, .int 0])), (t0, .inl (cC, 120, .inl (fun _ => 0))), (jR, .inr (4, [.ref jT, .ref r1, .ref r2, .int 0, .int 0, .int 0, .ref (ad 0), .ref (ad 0)])), (jL, .inr (7, [.ref l0, .int 0])), (l0, .inl (cL, 6, .inr (.inr (.inr (.inr (fun _ => none)))))), (jU, .inr (7, [.ref m0, .int 0])), (m0, .inl (cM, 8, .inr (.inr (.inr (.inr (fun _ => none)))))), (jF, .inr (2, [.ref f0, .ref f1, .ref f2, .ref f3, .ref f4, .int 0, .int 0, .int 0])), (f0, .inl (z0, 10, .inl (fun _ => 0))), (f1, .inl (z1, 10, .inl (fun _ => 0))), (f2, .inl (z2, 10, .inl (fun _ => 0))), (f4, .inl (z4, 4, .inl (fun _ => 0))), (jN, .inr (3, [.ref n0, .ref n1, .ref n2, .ref n3, .ref n4, .int 0])), (jA, .inr (0, [.ref a0, .ref a1, .ref a2, .ref a3, .int 0])), (b1, .inl (y1, 120, .inl (fun _ => 0))), (b19, .inl (y19, 10, .inl (fun _ => 0))), (b20, .inl (y20, 10, .inl (fun _ => 0))), (b21, .inl (y21, 10, .inl (fun _ => 0))), (b22, .inl (y22, 10, .inl (fun _ => 0))), (b23, .inl (y23, 10, .inl (fun _ => 0))), (b24, .inl (y24, 4, .inl (fun _ => 0))), (b25, .inl (y25, 10, .inl (fun _ => 0))), (o0, .inl (cO, 1, .inr (.inl (fun _ => 0))))] H := hP
  have hD : va_D (fun q : Nat => s.heap.size ≤ q) [(h0, .inr (9, [.ref jT, .ref jR, .ref e2, .ref jL, .ref jU, .ref jF, .ref e6, .ref jN, .ref jA, .ref e9])), (jT, .inr (8, [.ref t0, .int 0])), (t0, .inl (cC, 120, .inl (fun _ => 0))), (jR, .inr (4, [.ref jT, .ref r1, .ref r2, .int 0, .int 0, .int 0, .ref (ad 0), .ref (ad 0)])), (jL, .inr (7, [.ref l0, .int 0])), (l0, .inl (cL, 6, .inr (.inr (.inr (.inr (fun _ => none)))))), (jU, .inr (7, [.ref m0, .int 0])), (m0, .inl (cM, 8, .inr (.inr (.inr (.inr (fun _ => none)))))), (jF, .inr (2, [.ref f0, .ref f1, .ref f2, .ref f3, .ref f4, .int 0, .int 0, .int 0])), (f0, .inl (z0, 10, .inl (fun _ => 0))), (f1, .inl (z1, 10, .inl (fun _ => 0))), (f2, .inl (z2, 10, .inl (fun _ => 0))), (f4, .inl (z4, 4, .inl (fun _ => 0))), (jN, .inr (3, [.ref n0, .ref n1, .ref n2, .ref n3, .ref n4, .int 0])), (jA, .inr (0, [.ref a0, .ref a1, .ref a2, .ref a3, .int 0])), (b1, .inl (y1, 120, .inl (fun _ => 0))), (b19, .inl (y19, 10, .inl (fun _ => 0))), (b20, .inl (y20, 10, .inl (fun _ => 0))), (b21, .inl (y21, 10, .inl (fun _ => 0))), (b22, .inl (y22, 10, .inl (fun _ => 0))), (b23, .inl (y23, 10, .inl (fun _ => 0))), (b24, .inl (y24, 4, .inl (fun _ => 0))), (b25, .inl (y25, 10, .inl (fun _ => 0))), (o0, .inl (cO, 1, .inr (.inl (fun _ => 0))))] := hD
  obtain rfl : r_6 = (-1) := hw
  refine lv_icmp_eq (tgt := 1792) hx hb dL_law_1421 (by decide) (fun c_7 => ?_) (fun c_7 => absurd (by decide) c_7)
  exact law_tail C0 hS (Nat.le_of_ble_eq_true rfl) (Nat.le_of_ble_eq_true rfl) (lv_sub hl [0, 1, 2, 3, 4] rfl)
