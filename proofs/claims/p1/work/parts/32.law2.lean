theorem dL_law_727 : decode cL_law 727 = .ok (.aload_n 1, 1) := by decide +kernel
theorem dL_law_728 : decode cL_law 728 = .ok (.aload_n 0, 1) := by decide +kernel
theorem dL_law_729 : decode cL_law 729 = .ok (.iload 4, 2) := by decide +kernel
theorem dL_law_731 : decode cL_law 731 = .ok (.iconst 1, 1) := by decide +kernel
theorem dL_law_732 : decode cL_law 732 = .ok (.iadd, 1) := by decide +kernel
theorem dL_law_733 : decode cL_law 733 = .ok (.iaload, 1) := by decide +kernel
theorem dL_law_734 : decode cL_law 734 = .ok (.aload_n 0, 1) := by decide +kernel
theorem dL_law_735 : decode cL_law 735 = .ok (.iload 4, 2) := by decide +kernel
theorem dL_law_737 : decode cL_law 737 = .ok (.iconst 2, 1) := by decide +kernel
theorem dL_law_738 : decode cL_law 738 = .ok (.iadd, 1) := by decide +kernel
theorem dL_law_739 : decode cL_law 739 = .ok (.iaload, 1) := by decide +kernel
theorem dL_law_740 : decode cL_law 740 = .ok (.i2l, 1) := by decide +kernel
theorem dL_law_741 : decode cL_law 741 = .ok (.bipush 32, 2) := by decide +kernel
theorem dL_law_743 : decode cL_law 743 = .ok (.lshl, 1) := by decide +kernel
theorem dL_law_744 : decode cL_law 744 = .ok (.aload_n 0, 1) := by decide +kernel
theorem dL_law_745 : decode cL_law 745 = .ok (.iload 4, 2) := by decide +kernel
theorem dL_law_747 : decode cL_law 747 = .ok (.iconst 3, 1) := by decide +kernel
theorem dL_law_748 : decode cL_law 748 = .ok (.iadd, 1) := by decide +kernel
theorem dL_law_749 : decode cL_law 749 = .ok (.iaload, 1) := by decide +kernel
theorem dL_law_750 : decode cL_law 750 = .ok (.i2l, 1) := by decide +kernel
theorem dL_law_751 : decode cL_law 751 = .ok (.ldc2_w 62, 3) := by decide +kernel
theorem dL_law_754 : decode cL_law 754 = .ok (.land, 1) := by decide +kernel
theorem dL_law_755 : decode cL_law 755 = .ok (.lor, 1) := by decide +kernel
theorem dL_law_756 : decode cL_law 756 = .ok (.aload_n 0, 1) := by decide +kernel
theorem dL_law_757 : decode cL_law 757 = .ok (.iload 4, 2) := by decide +kernel
theorem dL_law_759 : decode cL_law 759 = .ok (.iconst 4, 1) := by decide +kernel
theorem dL_law_760 : decode cL_law 760 = .ok (.iadd, 1) := by decide +kernel
theorem dL_law_761 : decode cL_law 761 = .ok (.iaload, 1) := by decide +kernel
theorem dL_law_762 : decode cL_law 762 = .ok (.aload_n 0, 1) := by decide +kernel
theorem dL_law_763 : decode cL_law 763 = .ok (.iload 4, 2) := by decide +kernel
theorem dL_law_765 : decode cL_law 765 = .ok (.iconst 5, 1) := by decide +kernel
theorem dL_law_766 : decode cL_law 766 = .ok (.iadd, 1) := by decide +kernel
theorem dL_law_767 : decode cL_law 767 = .ok (.iaload, 1) := by decide +kernel
theorem dL_law_768 : decode cL_law 768 = .ok (.invokevirtual 74, 3) := by decide +kernel
theorem dL_law_771 : decode cL_law 771 = .ok (.aload_n 2, 1) := by decide +kernel
theorem dL_law_772 : decode cL_law 772 = .ok (.aload_n 0, 1) := by decide +kernel
theorem dL_law_773 : decode cL_law 773 = .ok (.iload 4, 2) := by decide +kernel
theorem dL_law_775 : decode cL_law 775 = .ok (.iconst 1, 1) := by decide +kernel
theorem dL_law_776 : decode cL_law 776 = .ok (.iadd, 1) := by decide +kernel
theorem dL_law_777 : decode cL_law 777 = .ok (.iaload, 1) := by decide +kernel
theorem dL_law_778 : decode cL_law 778 = .ok (.aload_n 0, 1) := by decide +kernel
theorem dL_law_779 : decode cL_law 779 = .ok (.iload 4, 2) := by decide +kernel
theorem dL_law_781 : decode cL_law 781 = .ok (.iconst 2, 1) := by decide +kernel
theorem dL_law_782 : decode cL_law 782 = .ok (.iadd, 1) := by decide +kernel
theorem dL_law_783 : decode cL_law 783 = .ok (.iaload, 1) := by decide +kernel
theorem dL_law_784 : decode cL_law 784 = .ok (.i2l, 1) := by decide +kernel
theorem dL_law_785 : decode cL_law 785 = .ok (.bipush 32, 2) := by decide +kernel
theorem dL_law_787 : decode cL_law 787 = .ok (.lshl, 1) := by decide +kernel
theorem dL_law_788 : decode cL_law 788 = .ok (.aload_n 0, 1) := by decide +kernel
theorem dL_law_789 : decode cL_law 789 = .ok (.iload 4, 2) := by decide +kernel
theorem dL_law_791 : decode cL_law 791 = .ok (.iconst 3, 1) := by decide +kernel
theorem dL_law_792 : decode cL_law 792 = .ok (.iadd, 1) := by decide +kernel
theorem dL_law_793 : decode cL_law 793 = .ok (.iaload, 1) := by decide +kernel
theorem dL_law_794 : decode cL_law 794 = .ok (.i2l, 1) := by decide +kernel
theorem dL_law_795 : decode cL_law 795 = .ok (.ldc2_w 62, 3) := by decide +kernel
theorem dL_law_798 : decode cL_law 798 = .ok (.land, 1) := by decide +kernel
theorem dL_law_799 : decode cL_law 799 = .ok (.lor, 1) := by decide +kernel
theorem dL_law_800 : decode cL_law 800 = .ok (.aload_n 0, 1) := by decide +kernel
theorem dL_law_801 : decode cL_law 801 = .ok (.iload 4, 2) := by decide +kernel
theorem dL_law_803 : decode cL_law 803 = .ok (.iconst 4, 1) := by decide +kernel
theorem dL_law_804 : decode cL_law 804 = .ok (.iadd, 1) := by decide +kernel
theorem dL_law_805 : decode cL_law 805 = .ok (.iaload, 1) := by decide +kernel
theorem dL_law_806 : decode cL_law 806 = .ok (.aload_n 0, 1) := by decide +kernel
theorem dL_law_807 : decode cL_law 807 = .ok (.iload 4, 2) := by decide +kernel
theorem dL_law_809 : decode cL_law 809 = .ok (.iconst 5, 1) := by decide +kernel
theorem dL_law_810 : decode cL_law 810 = .ok (.iadd, 1) := by decide +kernel
theorem dL_law_811 : decode cL_law 811 = .ok (.iaload, 1) := by decide +kernel
theorem dL_law_812 : decode cL_law 812 = .ok (.invokevirtual 77, 3) := by decide +kernel
theorem dL_law_815 : decode cL_law 815 = .ok (.if_icmp .eq 977, 3) := by decide +kernel
set_option maxHeartbeats 4000000 in
set_option maxRecDepth 100000 in
theorem law_10 {p : Program} {l : Launch} {e : Env} {s : State} {m : MethodId} {below : List Frame} {meth : Method} {c : Code} {b : Nat} {xs : Nat → Int32} {dC : Nat → ClassId} {dI : Nat → Nat → Nat} {ad : Nat → Nat} {h0 : Nat} {g0 : Nat} {o0 : Nat} {jT : Nat} {jR : Nat} {e2 : Nat} {jL : Nat} {jU : Nat} {jF : Nat} {e6 : Nat} {jN : Nat} {jA : Nat} {e9 : Nat} {t0 : Nat} {r1 : Nat} {r2 : Nat} {l0 : Nat} {m0 : Nat} {f0 : Nat} {f1 : Nat} {f2 : Nat} {f3 : Nat} {f4 : Nat} {n0 : Nat} {n1 : Nat} {n2 : Nat} {n3 : Nat} {n4 : Nat} {a0 : Nat} {a1 : Nat} {a2 : Nat} {a3 : Nat} {cC : ClassId} {cL : ClassId} {cM : ClassId} {z0 : ClassId} {z1 : ClassId} {z2 : ClassId} {z4 : ClassId} {b1 : Nat} {b2 : Nat} {b3 : Nat} {b4 : Nat} {b19 : Nat} {b20 : Nat} {b21 : Nat} {b22 : Nat} {b23 : Nat} {b24 : Nat} {b25 : Nat} {b28 : Nat} {b29 : Nat} {b30 : Nat} {b31 : Nat} {b32 : Nat} {b33 : Nat} {b34 : Nat} {b35 : Nat} {b36 : Nat} {b40 : Nat} {b41 : Nat} {b42 : Nat} {b43 : Nat} {b44 : Nat} {b46 : Nat} {b47 : Nat} {b48 : Nat} {b49 : Nat} {b50 : Nat} {y1 : ClassId} {y19 : ClassId} {y20 : ClassId} {y21 : ClassId} {y22 : ClassId} {y23 : ClassId} {y24 : ClassId} {y25 : ClassId} {cO : ClassId} (C0 : lw_At p s m meth c b 7 xs) (hXX : kLaw ad s) {H : Heap} {locs : List Loc} (hK : va_K (dC, dI) vwCl [(cC, .char), (cL, .object RX6), (cM, .object RX6), (z0, .int), (z1, .int), (z2, .int), (z4, .int), (y1, .byte), (y19, .int), (y20, .int), (y21, .int), (y22, .int), (y23, .int), (y24, .int), (y25, .boolean), (cO, .long)] s) (hP : va_P (dC, dI) vwCl [(h0, .inr (9, [.ref jT, .ref jR, .ref e2, .ref jL, .ref jU, .ref jF, .ref e6, .ref jN, .ref jA, .ref e9])), (jT, .inr (8, [.ref t0, .int 0])), (t0, .inl (cC, 120, .inl (fun _ => 0))), (jR, .inr (4, [.ref jT, .ref r1, .ref r2, .int 0, .int 0, .int 0, .ref (ad 0), .ref (ad 0)])), (jL, .inr (7, [.ref l0, .int 0])), (l0, .inl (cL, 6, .inr (.inr (.inr (.inr (fun _ => none)))))), (jU, .inr (7, [.ref m0, .int 0])), (m0, .inl (cM, 8, .inr (.inr (.inr (.inr (fun _ => none)))))), (jF, .inr (2, [.ref f0, .ref f1, .ref f2, .ref f3, .ref f4, .int 0, .int 0, .int 0])), (f0, .inl (z0, 10, .inl (fun _ => 0))), (f1, .inl (z1, 10, .inl (fun _ => 0))), (f2, .inl (z2, 10, .inl (fun _ => 0))), (f4, .inl (z4, 4, .inl (fun _ => 0))), (jN, .inr (3, [.ref n0, .ref n1, .ref n2, .ref n3, .ref n4, .int 0])), (jA, .inr (0, [.ref a0, .ref a1, .ref a2, .ref a3, .int 0])), (g0, .inr (10, [.int 0, .ref b1, .ref b2, .ref b3, .ref b4, .ref b1, .int 0, .int 0, .int 0, .int 0, .int 0, .int 0, .int 0, .int 0, .int 0, .int 0, .ref (ad 5), .ref (ad 7), .int 0, .ref b19, .ref b20, .ref b21, .ref b22, .ref b23, .ref b24, .ref b25, .int 0, .int 0, .ref b28, .ref b29, .ref b30, .ref b31, .ref b32, .ref b33, .ref b34, .ref b35, .ref b36, .int 0, .int 0, .long 0, .ref b40, .ref b41, .ref b42, .ref b43, .ref b44, .int 0, .ref b46, .ref b47, .ref b48, .ref b49, .ref b50, .int 0])), (b1, .inl (y1, 120, .inl (fun _ => 0))), (b19, .inl (y19, 10, .inl (fun _ => 0))), (b20, .inl (y20, 10, .inl (fun _ => 0))), (b21, .inl (y21, 10, .inl (fun _ => 0))), (b22, .inl (y22, 10, .inl (fun _ => 0))), (b23, .inl (y23, 10, .inl (fun _ => 0))), (b24, .inl (y24, 4, .inl (fun _ => 0))), (b25, .inl (y25, 10, .inl (fun _ => 0))), (o0, .inl (cO, 1, .inr (.inl (fun _ => 0))))] H) (hD : va_D (fun q : Nat => s.heap.size ≤ q) [(h0, .inr (9, [.ref jT, .ref jR, .ref e2, .ref jL, .ref jU, .ref jF, .ref e6, .ref jN, .ref jA, .ref e9])), (jT, .inr (8, [.ref t0, .int 0])), (t0, .inl (cC, 120, .inl (fun _ => 0))), (jR, .inr (4, [.ref jT, .ref r1, .ref r2, .int 0, .int 0, .int 0, .ref (ad 0), .ref (ad 0)])), (jL, .inr (7, [.ref l0, .int 0])), (l0, .inl (cL, 6, .inr (.inr (.inr (.inr (fun _ => none)))))), (jU, .inr (7, [.ref m0, .int 0])), (m0, .inl (cM, 8, .inr (.inr (.inr (.inr (fun _ => none)))))), (jF, .inr (2, [.ref f0, .ref f1, .ref f2, .ref f3, .ref f4, .int 0, .int 0, .int 0])), (f0, .inl (z0, 10, .inl (fun _ => 0))), (f1, .inl (z1, 10, .inl (fun _ => 0))), (f2, .inl (z2, 10, .inl (fun _ => 0))), (f4, .inl (z4, 4, .inl (fun _ => 0))), (jN, .inr (3, [.ref n0, .ref n1, .ref n2, .ref n3, .ref n4, .int 0])), (jA, .inr (0, [.ref a0, .ref a1, .ref a2, .ref a3, .int 0])), (g0, .inr (10, [.int 0, .ref b1, .ref b2, .ref b3, .ref b4, .ref b1, .int 0, .int 0, .int 0, .int 0, .int 0, .int 0, .int 0, .int 0, .int 0, .int 0, .ref (ad 5), .ref (ad 7), .int 0, .ref b19, .ref b20, .ref b21, .ref b22, .ref b23, .ref b24, .ref b25, .int 0, .int 0, .ref b28, .ref b29, .ref b30, .ref b31, .ref b32, .ref b33, .ref b34, .ref b35, .ref b36, .int 0, .int 0, .long 0, .ref b40, .ref b41, .ref b42, .ref b43, .ref b44, .int 0, .ref b46, .ref b47, .ref b48, .ref b49, .ref b50, .int 0])), (b1, .inl (y1, 120, .inl (fun _ => 0))), (b19, .inl (y19, 10, .inl (fun _ => 0))), (b20, .inl (y20, 10, .inl (fun _ => 0))), (b21, .inl (y21, 10, .inl (fun _ => 0))), (b22, .inl (y22, 10, .inl (fun _ => 0))), (b23, .inl (y23, 10, .inl (fun _ => 0))), (b24, .inl (y24, 4, .inl (fun _ => 0))), (b25, .inl (y25, 10, .inl (fun _ => 0))), (o0, .inl (cO, 1, .inr (.inl (fun _ => 0))))]) (hS : va_S (fun q : Nat => s.heap.size ≤ q) s.heap H locs) {ls : Array Slot} (hl : lv_has ls 7 [(4, .int 0), (3, .ref o0), (2, .ref g0), (1, .ref h0), (0, .ref b)]) (hlt : l.stackTraces = false) : W p l e room_1 s m #[Value.ref b] below meth c H locs 76 3048 (lw_Z below #[Value.ref b] s) (F0 m 727 ls []) := by
  obtain ⟨hx, hb, hr, hml, hown, hts, hX, hbl, hlocks, hgv⟩ := id C0
  have hown : s.vm.findClass RL = some m.cls := hown
  have hA : ∀ q : Nat, s.heap.size ≤ q → (fun q : Nat => s.heap.size ≤ q) q := fun _ h => h
  have hbA : ¬ (fun q : Nat => s.heap.size ≤ q) b := Nat.not_le.mpr hbl
  refine lv_aload_n hx hb dL_law_727 rfl (lv_at hl 3 rfl) ?_
  refine lv_aload_n hx hb dL_law_728 rfl (lv_at hl 4 rfl) ?_
  refine lv_iload hx hb dL_law_729 (lv_at hl 0 rfl) ?_
  refine lv_iconst (v := 1) hx hb dL_law_731 (by decide) ?_
  refine lv_iadd hx hb dL_law_732 ?_
  refine lv_topi (fun y_1 ey_1 => ?_)
  obtain rfl : y_1 = 1 := ey_1.trans (by decide)
  refine va_sld hx hb hX hbl hbA hS (by unfold vp_in; decide) dL_law_733 ?_
  refine lv_aload_n hx hb dL_law_734 rfl (lv_at hl 4 rfl) ?_
  refine lv_iload hx hb dL_law_735 (lv_at hl 0 rfl) ?_
  refine lv_iconst (v := 2) hx hb dL_law_737 (by decide) ?_
  refine lv_iadd hx hb dL_law_738 ?_
  refine lv_topi (fun y_2 ey_2 => ?_)
  obtain rfl : y_2 = 2 := ey_2.trans (by decide)
  refine va_sld hx hb hX hbl hbA hS (by unfold vp_in; decide) dL_law_739 ?_
  obtain ⟨z_3, ez_3⟩ : ∃ z : Int64, z = Int32.toInt64 (xs (Int32.toNatClampNeg 2)) := ⟨_, rfl⟩
  refine lv_i2l (v := z_3) hx hb dL_law_740 ez_3.symm ?_
  refine lv_bipush (v := 32) hx hb dL_law_741 (by decide) ?_
  refine lv_lshl (v := z_3 <<< (Int32.toInt64 32 &&& 63)) hx hb dL_law_743 rfl ?_
  refine lv_topl (fun z_4 ez_4 => ?_)
  refine lv_aload_n hx hb dL_law_744 rfl (lv_at hl 4 rfl) ?_
  refine lv_iload hx hb dL_law_745 (lv_at hl 0 rfl) ?_
  refine lv_iconst (v := 3) hx hb dL_law_747 (by decide) ?_
  refine lv_iadd hx hb dL_law_748 ?_
  refine lv_topi (fun y_5 ey_5 => ?_)
  obtain rfl : y_5 = 3 := ey_5.trans (by decide)
  refine va_sld hx hb hX hbl hbA hS (by unfold vp_in; decide) dL_law_749 ?_
  obtain ⟨z_6, ez_6⟩ : ∃ z : Int64, z = Int32.toInt64 (xs (Int32.toNatClampNeg 3)) := ⟨_, rfl⟩
  refine lv_i2l (v := z_6) hx hb dL_law_750 ez_6.symm ?_
  refine lv_ldc2 (v := 4294967295) hx hb hown (hts (.constantLong RL 62 (4294967295)) tw_1577) dL_law_751 ?_
  refine lv_land hx hb dL_law_754 ?_
  refine lv_topl (fun z_7 ez_7 => ?_)
  refine lv_lor hx hb dL_law_755 ?_
  refine lv_topl (fun z_8 ez_8 => ?_)
  refine lv_aload_n hx hb dL_law_756 rfl (lv_at hl 4 rfl) ?_
  refine lv_iload hx hb dL_law_757 (lv_at hl 0 rfl) ?_
  refine lv_iconst (v := 4) hx hb dL_law_759 (by decide) ?_
  refine lv_iadd hx hb dL_law_760 ?_
  refine lv_topi (fun y_9 ey_9 => ?_)
  obtain rfl : y_9 = 4 := ey_9.trans (by decide)
  refine va_sld hx hb hX hbl hbA hS (by unfold vp_in; decide) dL_law_761 ?_
  refine lv_aload_n hx hb dL_law_762 rfl (lv_at hl 4 rfl) ?_
  refine lv_iload hx hb dL_law_763 (lv_at hl 0 rfl) ?_
  refine lv_iconst (v := 5) hx hb dL_law_765 (by decide) ?_
  refine lv_iadd hx hb dL_law_766 ?_
  refine lv_topi (fun y_10 ey_10 => ?_)
  obtain rfl : y_10 = 5 := ey_10.trans (by decide)
  refine va_sld hx hb hX hbl hbA hS (by unfold vp_in; decide) dL_law_767 ?_
  have hPc := hP.sub (ws' := [(h0, .inr (9, [.ref jT, .ref jR, .ref e2, .ref jL, .ref jU, .ref jF, .ref e6, .ref jN, .ref jA, .ref e9])), (jL, .inr (7, [.ref l0, .int 0]))]) [0, 4] rfl
  have hKc := hK.sub (tys' := []) [] rfl
  refine vp_callSi (va_runV (As := [.int (xs (Int32.toNatClampNeg 1)), .long z_8, .int (xs (Int32.toNatClampNeg 4)), .int (xs (Int32.toNatClampNeg 5))]) (rest := []) ⟨hx, hb, hml, hown, hts⟩ (c_without9 l dC dI h0 jL (.ref jT : Value) (.ref jR : Value) (.ref e2 : Value) (.ref jU : Value) (.ref jF : Value) (.ref e6 : Value) (.ref jN : Value) (.ref jA : Value) (.ref e9 : Value) (.ref l0 : Value) (xs (Int32.toNatClampNeg 1)) z_8 (xs (Int32.toNatClampNeg 4)) (xs (Int32.toNatClampNeg 5))) (cwV 4 hts (kG (List.forall_mem_cons.mpr ⟨tw_774, (List.forall_mem_cons.mpr ⟨tw_775, (List.forall_mem_cons.mpr ⟨tw_776, (List.forall_mem_cons.mpr ⟨tw_75, (fun _ h => absurd h List.not_mem_nil)⟩)⟩)⟩)⟩) (by decide +kernel) in_w_c_without9 gw_c_without9) rfl rfl rfl (by decide +kernel) ⟨(Nat.le_of_ble_eq_true rfl), (Nat.le_of_ble_eq_true rfl)⟩) (kR_V kT_blind kT_give (va_recv hKc hPc (ci := 9) (q0 := 0) rfl rfl) hPc hKc) rfl rfl hl.1 rfl (lv_room (Nat.le_of_ble_eq_true rfl)) dL_law_768 ⟨(Nat.le_of_ble_eq_true rfl), (Nat.le_of_ble_eq_true rfl)⟩).run (fun r_11 hw => ?_)
  obtain rfl : r_11 = (-1000) := hw
  refine lv_aload_n hx hb dL_law_771 rfl (lv_at hl 2 rfl) ?_
  refine lv_aload_n hx hb dL_law_772 rfl (lv_at hl 4 rfl) ?_
  refine lv_iload hx hb dL_law_773 (lv_at hl 0 rfl) ?_
  refine lv_iconst (v := 1) hx hb dL_law_775 (by decide) ?_
  refine lv_iadd hx hb dL_law_776 ?_
  refine lv_topi (fun y_12 ey_12 => ?_)
  obtain rfl : y_12 = 1 := ey_12.trans (by decide)
  refine va_sld hx hb hX hbl hbA hS (by unfold vp_in; decide) dL_law_777 ?_
  refine lv_aload_n hx hb dL_law_778 rfl (lv_at hl 4 rfl) ?_
  refine lv_iload hx hb dL_law_779 (lv_at hl 0 rfl) ?_
  refine lv_iconst (v := 2) hx hb dL_law_781 (by decide) ?_
  refine lv_iadd hx hb dL_law_782 ?_
  refine lv_topi (fun y_13 ey_13 => ?_)
  obtain rfl : y_13 = 2 := ey_13.trans (by decide)
  refine va_sld hx hb hX hbl hbA hS (by unfold vp_in; decide) dL_law_783 ?_
  obtain ⟨z_14, ez_14⟩ : ∃ z : Int64, z = Int32.toInt64 (xs (Int32.toNatClampNeg 2)) := ⟨_, rfl⟩
  refine lv_i2l (v := z_14) hx hb dL_law_784 ez_14.symm ?_
  refine lv_bipush (v := 32) hx hb dL_law_785 (by decide) ?_
  refine lv_lshl (v := z_14 <<< (Int32.toInt64 32 &&& 63)) hx hb dL_law_787 rfl ?_
  refine lv_topl (fun z_15 ez_15 => ?_)
  refine lv_aload_n hx hb dL_law_788 rfl (lv_at hl 4 rfl) ?_
  refine lv_iload hx hb dL_law_789 (lv_at hl 0 rfl) ?_
  refine lv_iconst (v := 3) hx hb dL_law_791 (by decide) ?_
  refine lv_iadd hx hb dL_law_792 ?_
  refine lv_topi (fun y_16 ey_16 => ?_)
  obtain rfl : y_16 = 3 := ey_16.trans (by decide)
  refine va_sld hx hb hX hbl hbA hS (by unfold vp_in; decide) dL_law_793 ?_
  obtain ⟨z_17, ez_17⟩ : ∃ z : Int64, z = Int32.toInt64 (xs (Int32.toNatClampNeg 3)) := ⟨_, rfl⟩
  refine lv_i2l (v := z_17) hx hb dL_law_794 ez_17.symm ?_
  refine lv_ldc2 (v := 4294967295) hx hb hown (hts (.constantLong RL 62 (4294967295)) tw_1577) dL_law_795 ?_
  refine lv_land hx hb dL_law_798 ?_
  refine lv_topl (fun z_18 ez_18 => ?_)
  refine lv_lor hx hb dL_law_799 ?_
  refine lv_topl (fun z_19 ez_19 => ?_)
  refine lv_aload_n hx hb dL_law_800 rfl (lv_at hl 4 rfl) ?_
  refine lv_iload hx hb dL_law_801 (lv_at hl 0 rfl) ?_
  refine lv_iconst (v := 4) hx hb dL_law_803 (by decide) ?_
  refine lv_iadd hx hb dL_law_804 ?_
  refine lv_topi (fun y_20 ey_20 => ?_)
  obtain rfl : y_20 = 4 := ey_20.trans (by decide)
  refine va_sld hx hb hX hbl hbA hS (by unfold vp_in; decide) dL_law_805 ?_
  refine lv_aload_n hx hb dL_law_806 rfl (lv_at hl 4 rfl) ?_
  refine lv_iload hx hb dL_law_807 (lv_at hl 0 rfl) ?_
  refine lv_iconst (v := 5) hx hb dL_law_809 (by decide) ?_
  refine lv_iadd hx hb dL_law_810 ?_
  refine lv_topi (fun y_21 ey_21 => ?_)
  obtain rfl : y_21 = 5 := ey_21.trans (by decide)
  refine va_sld hx hb hX hbl hbA hS (by unfold vp_in; decide) dL_law_811 ?_
  have hPc := hP.sub (ws' := [(g0, .inr (10, [.int 0, .ref b1, .ref b2, .ref b3, .ref b4, .ref b1, .int 0, .int 0, .int 0, .int 0, .int 0, .int 0, .int 0, .int 0, .int 0, .int 0, .ref (ad 5), .ref (ad 7), .int 0, .ref b19, .ref b20, .ref b21, .ref b22, .ref b23, .ref b24, .ref b25, .int 0, .int 0, .ref b28, .ref b29, .ref b30, .ref b31, .ref b32, .ref b33, .ref b34, .ref b35, .ref b36, .int 0, .int 0, .long 0, .ref b40, .ref b41, .ref b42, .ref b43, .ref b44, .int 0, .ref b46, .ref b47, .ref b48, .ref b49, .ref b50, .int 0]))]) [15] rfl
  have hKc := hK.sub (tys' := []) [] rfl
  have hDc := hD.sub (ws' := [(g0, .inr (10, [.int 0, .ref b1, .ref b2, .ref b3, .ref b4, .ref b1, .int 0, .int 0, .int 0, .int 0, .int 0, .int 0, .int 0, .int 0, .int 0, .int 0, .ref (ad 5), .ref (ad 7), .int 0, .ref b19, .ref b20, .ref b21, .ref b22, .ref b23, .ref b24, .ref b25, .int 0, .int 0, .ref b28, .ref b29, .ref b30, .ref b31, .ref b32, .ref b33, .ref b34, .ref b35, .ref b36, .int 0, .int 0, .long 0, .ref b40, .ref b41, .ref b42, .ref b43, .ref b44, .int 0, .ref b46, .ref b47, .ref b48, .ref b49, .ref b50, .int 0]))]) [15] (by decide) rfl
  have hFc := va_free (wc := [(g0, .inr (10, [.int 0, .ref b1, .ref b2, .ref b3, .ref b4, .ref b1, .int 0, .int 0, .int 0, .int 0, .int 0, .int 0, .int 0, .int 0, .int 0, .int 0, .ref (ad 5), .ref (ad 7), .int 0, .ref b19, .ref b20, .ref b21, .ref b22, .ref b23, .ref b24, .ref b25, .int 0, .int 0, .ref b28, .ref b29, .ref b30, .ref b31, .ref b32, .ref b33, .ref b34, .ref b35, .ref b36, .int 0, .int 0, .long 0, .ref b40, .ref b41, .ref b42, .ref b43, .ref b44, .int 0, .ref b46, .ref b47, .ref b48, .ref b49, .ref b50, .int 0]))]) hD hS hA [15] rfl
  refine va_calli (va_runV (As := [.int (xs (Int32.toNatClampNeg 1)), .long z_19, .int (xs (Int32.toNatClampNeg 4)), .int (xs (Int32.toNatClampNeg 5))]) (rest := [.int (-1000)]) ⟨hx, hb, hml, hown, hts⟩ (c_without10 l dC dI g0 (.int 0 : Value) (.ref b1 : Value) (.ref b2 : Value) (.ref b3 : Value) (.ref b4 : Value) (.ref b1 : Value) (.int 0 : Value) (.int 0 : Value) (.int 0 : Value) (.int 0 : Value) (.int 0 : Value) (.int 0 : Value) (.int 0 : Value) (.int 0 : Value) (.int 0 : Value) (.ref (ad 5) : Value) (.ref (ad 7) : Value) (.int 0 : Value) (.ref b19 : Value) (.ref b20 : Value) (.ref b21 : Value) (.ref b22 : Value) (.ref b23 : Value) (.ref b24 : Value) (.ref b25 : Value) (.int 0 : Value) (.int 0 : Value) (.ref b28 : Value) (.ref b29 : Value) (.ref b30 : Value) (.ref b31 : Value) (.ref b32 : Value) (.ref b33 : Value) (.ref b34 : Value) (.ref b35 : Value) (.ref b36 : Value) (.int 0 : Value) (.int 0 : Value) (.long 0 : Value) (.ref b40 : Value) (.ref b41 : Value) (.ref b42 : Value) (.ref b43 : Value) (.ref b44 : Value) (.int 0 : Value) (.ref b46 : Value) (.ref b47 : Value) (.ref b48 : Value) (.ref b49 : Value) (.ref b50 : Value) (.int 0 : Value) (xs (Int32.toNatClampNeg 1)) z_19 (xs (Int32.toNatClampNeg 4)) (xs (Int32.toNatClampNeg 5)) H.size) (cwV 4 hts (kG (List.forall_mem_cons.mpr ⟨tw_1446, (List.forall_mem_cons.mpr ⟨tw_1447, (List.forall_mem_cons.mpr ⟨tw_1448, (List.forall_mem_cons.mpr ⟨tw_85, (fun _ h => absurd h List.not_mem_nil)⟩)⟩)⟩)⟩) (by decide +kernel) in_w_c_without10 gw_c_without10) rfl rfl rfl (by decide +kernel) ⟨(Nat.le_of_ble_eq_true rfl), (Nat.le_of_ble_eq_true rfl)⟩) (kW_V kT_blind kT_give (va_recv hKc hPc (ci := 10) (q0 := 0) rfl rfl) hPc hKc hDc) rfl rfl hl.1 rfl (lv_room (Nat.le_of_ble_eq_true rfl)) dL_law_812 ⟨(Nat.le_of_ble_eq_true rfl), (Nat.le_of_ble_eq_true rfl)⟩) hS (fun q _ h => hFc q h) hFc (fun r_22 u t H1 locs ht hvm hw hB hz1 hk1 hS => ?_)
  have hP1 : va_P (dC, dI) vwCl [] H1 := fun k q h => by simp at h
  have hD1 : va_D (va_A [(g0, .inr (10, [.int 0, .ref b1, .ref b2, .ref b3, .ref b4, .ref b1, .int 0, .int 0, .int 0, .int 0, .int 0, .int 0, .int 0, .int 0, .int 0, .int 0, .ref (ad 5), .ref (ad 7), .int 0, .ref b19, .ref b20, .ref b21, .ref b22, .ref b23, .ref b24, .ref b25, .int 0, .int 0, .ref b28, .ref b29, .ref b30, .ref b31, .ref b32, .ref b33, .ref b34, .ref b35, .ref b36, .int 0, .int 0, .long 0, .ref b40, .ref b41, .ref b42, .ref b43, .ref b44, .int 0, .ref b46, .ref b47, .ref b48, .ref b49, .ref b50, .int 0]))] H.size) [] := ⟨fun i j p q h => by simp at h, fun k q h => by simp at h⟩
  try dsimp only at hw
  obtain ⟨hP, hD⟩ := va_join (wr := [(h0, .inr (9, [.ref jT, .ref jR, .ref e2, .ref jL, .ref jU, .ref jF, .ref e6, .ref jN, .ref jA, .ref e9])), (jT, .inr (8, [.ref t0, .int 0])), (t0, .inl (cC, 120, .inl (fun _ => 0))), (jR, .inr (4, [.ref jT, .ref r1, .ref r2, .int 0, .int 0, .int 0, .ref (ad 0), .ref (ad 0)])), (jL, .inr (7, [.ref l0, .int 0])), (l0, .inl (cL, 6, .inr (.inr (.inr (.inr (fun _ => none)))))), (jU, .inr (7, [.ref m0, .int 0])), (m0, .inl (cM, 8, .inr (.inr (.inr (.inr (fun _ => none)))))), (jF, .inr (2, [.ref f0, .ref f1, .ref f2, .ref f3, .ref f4, .int 0, .int 0, .int 0])), (f0, .inl (z0, 10, .inl (fun _ => 0))), (f1, .inl (z1, 10, .inl (fun _ => 0))), (f2, .inl (z2, 10, .inl (fun _ => 0))), (f4, .inl (z4, 4, .inl (fun _ => 0))), (jN, .inr (3, [.ref n0, .ref n1, .ref n2, .ref n3, .ref n4, .int 0])), (jA, .inr (0, [.ref a0, .ref a1, .ref a2, .ref a3, .int 0])), (b1, .inl (y1, 120, .inl (fun _ => 0))), (b19, .inl (y19, 10, .inl (fun _ => 0))), (b20, .inl (y20, 10, .inl (fun _ => 0))), (b21, .inl (y21, 10, .inl (fun _ => 0))), (b22, .inl (y22, 10, .inl (fun _ => 0))), (b23, .inl (y23, 10, .inl (fun _ => 0))), (b24, .inl (y24, 4, .inl (fun _ => 0))), (b25, .inl (y25, 10, .inl (fun _ => 0))), (o0, .inl (cO, 1, .inr (.inl (fun _ => 0))))]) (w1 := []) hP hD [15] [0, 1, 2, 3, 4, 5, 6, 7, 8, 9, 10, 11, 12, 13, 14, 16, 17, 18, 19, 20, 21, 22, 23, 24] rfl rfl (by decide) (by decide) hk1 hFc hP1 hD1
  generalize H1 = H at hP hS ⊢
  have hP : va_P (dC, dI) vwCl [(h0, .inr (9, [.ref jT, .ref jR, .ref e2, .ref jL, .ref jU, .ref jF, .ref e6, .ref jN, .ref jA, .ref e9])), (jT, .inr (8, [.ref t0, .int 0])), (t0, .inl (cC, 120, .inl (fun _ => 0))), (jR, .inr (4, [.ref jT, .ref r1, .ref r2, .int 0, .int 0, .int 0, .ref (ad 0), .ref (ad 0)])), (jL, .inr (7, [.ref l0, .int 0])), (l0, .inl (cL, 6, .inr (.inr (.inr (.inr (fun _ => none)))))), (jU, .inr (7, [.ref m0, .int 0])), (m0, .inl (cM, 8, .inr (.inr (.inr (.inr (fun _ => none)))))), (jF, .inr (2, [.ref f0, .ref f1, .ref f2, .ref f3, .ref f4, .int 0, .int 0, .int 0])), (f0, .inl (z0, 10, .inl (fun _ => 0))), (f1, .inl (z1, 10, .inl (fun _ => 0))), (f2, .inl (z2, 10, .inl (fun _ => 0))), (f4, .inl (z4, 4, .inl (fun _ => 0))), (jN, .inr (3, [.ref n0, .ref n1, .ref n2, .ref n3, .ref n4, .int 0])), (jA, .inr (0, [.ref a0, .ref a1, .ref a2, .ref a3, .int 0])), (b1, .inl (y1, 120, .inl (fun _ => 0))), (b19, .inl (y19, 10, .inl (fun _ => 0))), (b20, .inl (y20, 10, .inl (fun _ => 0))), (b21, .inl (y21, 10, .inl (fun _ => 0))), (b22, .inl (y22, 10, .inl (fun _ => 0))), (b23, .inl (y23, 10, .inl (fun _ => 0))), (b24, .inl (y24, 4, .inl (fun _ => 0))), (b25, .inl (y25, 10, .inl (fun _ => 0))), (o0, .inl (cO, 1, .inr (.inl (fun _ => 0))))] H := hP
  have hD : va_D (fun q : Nat => s.heap.size ≤ q) [(h0, .inr (9, [.ref jT, .ref jR, .ref e2, .ref jL, .ref jU, .ref jF, .ref e6, .ref jN, .ref jA, .ref e9])), (jT, .inr (8, [.ref t0, .int 0])), (t0, .inl (cC, 120, .inl (fun _ => 0))), (jR, .inr (4, [.ref jT, .ref r1, .ref r2, .int 0, .int 0, .int 0, .ref (ad 0), .ref (ad 0)])), (jL, .inr (7, [.ref l0, .int 0])), (l0, .inl (cL, 6, .inr (.inr (.inr (.inr (fun _ => none)))))), (jU, .inr (7, [.ref m0, .int 0])), (m0, .inl (cM, 8, .inr (.inr (.inr (.inr (fun _ => none)))))), (jF, .inr (2, [.ref f0, .ref f1, .ref f2, .ref f3, .ref f4, .int 0, .int 0, .int 0])), (f0, .inl (z0, 10, .inl (fun _ => 0))), (f1, .inl (z1, 10, .inl (fun _ => 0))), (f2, .inl (z2, 10, .inl (fun _ => 0))), (f4, .inl (z4, 4, .inl (fun _ => 0))), (jN, .inr (3, [.ref n0, .ref n1, .ref n2, .ref n3, .ref n4, .int 0])), (jA, .inr (0, [.ref a0, .ref a1, .ref a2, .ref a3, .int 0])), (b1, .inl (y1, 120, .inl (fun _ => 0))), (b19, .inl (y19, 10, .inl (fun _ => 0))), (b20, .inl (y20, 10, .inl (fun _ => 0))), (b21, .inl (y21, 10, .inl (fun _ => 0))), (b22, .inl (y22, 10, .inl (fun _ => 0))), (b23, .inl (y23, 10, .inl (fun _ => 0))), (b24, .inl (y24, 4, .inl (fun _ => 0))), (b25, .inl (y25, 10, .inl (fun _ => 0))), (o0, .inl (cO, 1, .inr (.inl (fun _ => 0))))] := hD
  obtain rfl : r_22 = (-1000) := hw
  refine lv_icmp_eq (tgt := 1792) hx hb dL_law_815 (by decide) (fun c_23 => ?_) (fun c_23 => absurd (by decide) c_23)
  exact law_tail C0 hS (Nat.le_of_ble_eq_true rfl) (Nat.le_of_ble_eq_true rfl) (lv_sub hl [0, 1, 2, 3, 4] rfl)

theorem dL_law_820 : decode cL_law 820 = .ok (.aload_n 1, 1) := by decide +kernel
theorem dL_law_821 : decode cL_law 821 = .ok (.aload_n 0, 1) := by decide +kernel
theorem dL_law_822 : decode cL_law 822 = .ok (.iload 4, 2) := by decide +kernel
theorem dL_law_824 : decode cL_law 824 = .ok (.iconst 1, 1) := by decide +kernel
theorem dL_law_825 : decode cL_law 825 = .ok (.iadd, 1) := by decide +kernel
theorem dL_law_826 : decode cL_law 826 = .ok (.iaload, 1) := by decide +kernel
theorem dL_law_827 : decode cL_law 827 = .ok (.aload_n 0, 1) := by decide +kernel
theorem dL_law_828 : decode cL_law 828 = .ok (.iload 4, 2) := by decide +kernel
theorem dL_law_830 : decode cL_law 830 = .ok (.iconst 2, 1) := by decide +kernel
theorem dL_law_831 : decode cL_law 831 = .ok (.iadd, 1) := by decide +kernel
theorem dL_law_832 : decode cL_law 832 = .ok (.iaload, 1) := by decide +kernel
theorem dL_law_833 : decode cL_law 833 = .ok (.i2l, 1) := by decide +kernel
theorem dL_law_834 : decode cL_law 834 = .ok (.bipush 32, 2) := by decide +kernel
theorem dL_law_836 : decode cL_law 836 = .ok (.lshl, 1) := by decide +kernel
theorem dL_law_837 : decode cL_law 837 = .ok (.aload_n 0, 1) := by decide +kernel
theorem dL_law_838 : decode cL_law 838 = .ok (.iload 4, 2) := by decide +kernel
theorem dL_law_840 : decode cL_law 840 = .ok (.iconst 3, 1) := by decide +kernel
theorem dL_law_841 : decode cL_law 841 = .ok (.iadd, 1) := by decide +kernel
theorem dL_law_842 : decode cL_law 842 = .ok (.iaload, 1) := by decide +kernel
theorem dL_law_843 : decode cL_law 843 = .ok (.i2l, 1) := by decide +kernel
theorem dL_law_844 : decode cL_law 844 = .ok (.ldc2_w 62, 3) := by decide +kernel
theorem dL_law_847 : decode cL_law 847 = .ok (.land, 1) := by decide +kernel
theorem dL_law_848 : decode cL_law 848 = .ok (.lor, 1) := by decide +kernel
theorem dL_law_849 : decode cL_law 849 = .ok (.aload_n 0, 1) := by decide +kernel
theorem dL_law_850 : decode cL_law 850 = .ok (.iload 4, 2) := by decide +kernel
theorem dL_law_852 : decode cL_law 852 = .ok (.iconst 4, 1) := by decide +kernel
theorem dL_law_853 : decode cL_law 853 = .ok (.iadd, 1) := by decide +kernel
theorem dL_law_854 : decode cL_law 854 = .ok (.iaload, 1) := by decide +kernel
theorem dL_law_855 : decode cL_law 855 = .ok (.invokevirtual 78, 3) := by decide +kernel
theorem dL_law_858 : decode cL_law 858 = .ok (.aload_n 2, 1) := by decide +kernel
theorem dL_law_859 : decode cL_law 859 = .ok (.aload_n 0, 1) := by decide +kernel
theorem dL_law_860 : decode cL_law 860 = .ok (.iload 4, 2) := by decide +kernel
theorem dL_law_862 : decode cL_law 862 = .ok (.iconst 1, 1) := by decide +kernel
theorem dL_law_863 : decode cL_law 863 = .ok (.iadd, 1) := by decide +kernel
theorem dL_law_864 : decode cL_law 864 = .ok (.iaload, 1) := by decide +kernel
theorem dL_law_865 : decode cL_law 865 = .ok (.aload_n 0, 1) := by decide +kernel
theorem dL_law_866 : decode cL_law 866 = .ok (.iload 4, 2) := by decide +kernel
theorem dL_law_868 : decode cL_law 868 = .ok (.iconst 2, 1) := by decide +kernel
theorem dL_law_869 : decode cL_law 869 = .ok (.iadd, 1) := by decide +kernel
theorem dL_law_870 : decode cL_law 870 = .ok (.iaload, 1) := by decide +kernel
theorem dL_law_871 : decode cL_law 871 = .ok (.i2l, 1) := by decide +kernel
theorem dL_law_872 : decode cL_law 872 = .ok (.bipush 32, 2) := by decide +kernel
theorem dL_law_874 : decode cL_law 874 = .ok (.lshl, 1) := by decide +kernel
theorem dL_law_875 : decode cL_law 875 = .ok (.aload_n 0, 1) := by decide +kernel
theorem dL_law_876 : decode cL_law 876 = .ok (.iload 4, 2) := by decide +kernel
theorem dL_law_878 : decode cL_law 878 = .ok (.iconst 3, 1) := by decide +kernel
theorem dL_law_879 : decode cL_law 879 = .ok (.iadd, 1) := by decide +kernel
theorem dL_law_880 : decode cL_law 880 = .ok (.iaload, 1) := by decide +kernel
theorem dL_law_881 : decode cL_law 881 = .ok (.i2l, 1) := by decide +kernel
theorem dL_law_882 : decode cL_law 882 = .ok (.ldc2_w 62, 3) := by decide +kernel
theorem dL_law_885 : decode cL_law 885 = .ok (.land, 1) := by decide +kernel
theorem dL_law_886 : decode cL_law 886 = .ok (.lor, 1) := by decide +kernel
theorem dL_law_887 : decode cL_law 887 = .ok (.aload_n 0, 1) := by decide +kernel
theorem dL_law_888 : decode cL_law 888 = .ok (.iload 4, 2) := by decide +kernel
theorem dL_law_890 : decode cL_law 890 = .ok (.iconst 4, 1) := by decide +kernel
theorem dL_law_891 : decode cL_law 891 = .ok (.iadd, 1) := by decide +kernel
theorem dL_law_892 : decode cL_law 892 = .ok (.iaload, 1) := by decide +kernel
theorem dL_law_893 : decode cL_law 893 = .ok (.invokevirtual 82, 3) := by decide +kernel
theorem dL_law_896 : decode cL_law 896 = .ok (.if_icmp .eq 896, 3) := by decide +kernel
set_option maxHeartbeats 4000000 in
set_option maxRecDepth 100000 in
theorem law_11 {p : Program} {l : Launch} {e : Env} {s : State} {m : MethodId} {below : List Frame} {meth : Method} {c : Code} {b : Nat} {xs : Nat → Int32} {dC : Nat → ClassId} {dI : Nat → Nat → Nat} {ad : Nat → Nat} {h0 : Nat} {g0 : Nat} {o0 : Nat} {jT : Nat} {jR : Nat} {e2 : Nat} {jL : Nat} {jU : Nat} {jF : Nat} {e6 : Nat} {jN : Nat} {jA : Nat} {e9 : Nat} {t0 : Nat} {r1 : Nat} {r2 : Nat} {l0 : Nat} {m0 : Nat} {f0 : Nat} {f1 : Nat} {f2 : Nat} {f3 : Nat} {f4 : Nat} {n0 : Nat} {n1 : Nat} {n2 : Nat} {n3 : Nat} {n4 : Nat} {a0 : Nat} {a1 : Nat} {a2 : Nat} {a3 : Nat} {cC : ClassId} {cL : ClassId} {cM : ClassId} {z0 : ClassId} {z1 : ClassId} {z2 : ClassId} {z4 : ClassId} {b1 : Nat} {b2 : Nat} {b3 : Nat} {b4 : Nat} {b19 : Nat} {b20 : Nat} {b21 : Nat} {b22 : Nat} {b23 : Nat} {b24 : Nat} {b25 : Nat} {b28 : Nat} {b29 : Nat} {b30 : Nat} {b31 : Nat} {b32 : Nat} {b33 : Nat} {b34 : Nat} {b35 : Nat} {b36 : Nat} {b40 : Nat} {b41 : Nat} {b42 : Nat} {b43 : Nat} {b44 : Nat} {b46 : Nat} {b47 : Nat} {b48 : Nat} {b49 : Nat} {b50 : Nat} {y1 : ClassId} {y19 : ClassId} {y20 : ClassId} {y21 : ClassId} {y22 : ClassId} {y23 : ClassId} {y24 : ClassId} {y25 : ClassId} {cO : ClassId} (C0 : lw_At p s m meth c b 7 xs) (hXX : kLaw ad s) {H : Heap} {locs : List Loc} (hK : va_K (dC, dI) vwCl [(cC, .char), (cL, .object RX6), (cM, .object RX6), (z0, .int), (z1, .int), (z2, .int), (z4, .int), (y1, .byte), (y19, .int), (y20, .int), (y21, .int), (y22, .int), (y23, .int), (y24, .int), (y25, .boolean), (cO, .long)] s) (hP : va_P (dC, dI) vwCl [(h0, .inr (9, [.ref jT, .ref jR, .ref e2, .ref jL, .ref jU, .ref jF, .ref e6, .ref jN, .ref jA, .ref e9])), (jT, .inr (8, [.ref t0, .int 0])), (t0, .inl (cC, 120, .inl (fun _ => 0))), (jR, .inr (4, [.ref jT, .ref r1, .ref r2, .int 0, .int 0, .int 0, .ref (ad 0), .ref (ad 0)])), (jL, .inr (7, [.ref l0, .int 0])), (l0, .inl (cL, 6, .inr (.inr (.inr (.inr (fun _ => none)))))), (jU, .inr (7, [.ref m0, .int 0])), (m0, .inl (cM, 8, .inr (.inr (.inr (.inr (fun _ => none)))))), (jF, .inr (2, [.ref f0, .ref f1, .ref f2, .ref f3, .ref f4, .int 0, .int 0, .int 0])), (f0, .inl (z0, 10, .inl (fun _ => 0))), (f1, .inl (z1, 10, .inl (fun _ => 0))), (f2, .inl (z2, 10, .inl (fun _ => 0))), (f4, .inl (z4, 4, .inl (fun _ => 0))), (jN, .inr (3, [.ref n0, .ref n1, .ref n2, .ref n3, .ref n4, .int 0])), (jA, .inr (0, [.ref a0, .ref a1, .ref a2, .ref a3, .int 0])), (g0, .inr (10, [.int 0, .ref b1, .ref b2, .ref b3, .ref b4, .ref b1, .int 0, .int 0, .int 0, .int 0, .int 0, .int 0, .int 0, .int 0, .int 0, .int 0, .ref (ad 5), .ref (ad 7), .int 0, .ref b19, .ref b20, .ref b21, .ref b22, .ref b23, .ref b24, .ref b25, .int 0, .int 0, .ref b28, .ref b29, .ref b30, .ref b31, .ref b32, .ref b33, .ref b34, .ref b35, .ref b36, .int 0, .int 0, .long 0, .ref b40, .ref b41, .ref b42, .ref b43, .ref b44, .int 0, .ref b46, .ref b47, .ref b48, .ref b49, .ref b50, .int 0])), (b1, .inl (y1, 120, .inl (fun _ => 0))), (b19, .inl (y19, 10, .inl (fun _ => 0))), (b20, .inl (y20, 10, .inl (fun _ => 0))), (b21, .inl (y21, 10, .inl (fun _ => 0))), (b22, .inl (y22, 10, .inl (fun _ => 0))), (b23, .inl (y23, 10, .inl (fun _ => 0))), (b24, .inl (y24, 4, .inl (fun _ => 0))), (b25, .inl (y25, 10, .inl (fun _ => 0))), (o0, .inl (cO, 1, .inr (.inl (fun _ => 0))))] H) (hD : va_D (fun q : Nat => s.heap.size ≤ q) [(h0, .inr (9, [.ref jT, .ref jR, .ref e2, .ref jL, .ref jU, .ref jF, .ref e6, .ref jN, .ref jA, .ref e9])), (jT, .inr (8, [.ref t0, .int 0])), (t0, .inl (cC, 120, .inl (fun _ => 0))), (jR, .inr (4, [.ref jT, .ref r1, .ref r2, .int 0, .int 0, .int 0, .ref (ad 0), .ref (ad 0)])), (jL, .inr (7, [.ref l0, .int 0])), (l0, .inl (cL, 6, .inr (.inr (.inr (.inr (fun _ => none)))))), (jU, .inr (7, [.ref m0, .int 0])), (m0, .inl (cM, 8, .inr (.inr (.inr (.inr (fun _ => none)))))), (jF, .inr (2, [.ref f0, .ref f1, .ref f2, .ref f3, .ref f4, .int 0, .int 0, .int 0])), (f0, .inl (z0, 10, .inl (fun _ => 0))), (f1, .inl (z1, 10, .inl (fun _ => 0))), (f2, .inl (z2, 10, .inl (fun _ => 0))), (f4, .inl (z4, 4, .inl (fun _ => 0))), (jN, .inr (3, [.ref n0, .ref n1, .ref n2, .ref n3, .ref n4, .int 0])), (jA, .inr (0, [.ref a0, .ref a1, .ref a2, .ref a3, .int 0])), (g0, .inr (10, [.int 0, .ref b1, .ref b2, .ref b3, .ref b4, .ref b1, .int 0, .int 0, .int 0, .int 0, .int 0, .int 0, .int 0, .int 0, .int 0, .int 0, .ref (ad 5), .ref (ad 7), .int 0, .ref b19, .ref b20, .ref b21, .ref b22, .ref b23, .ref b24, .ref b25, .int 0, .int 0, .ref b28, .ref b29, .ref b30, .ref b31, .ref b32, .ref b33, .ref b34, .ref b35, .ref b36, .int 0, .int 0, .long 0, .ref b40, .ref b41, .ref b42, .ref b43, .ref b44, .int 0, .ref b46, .ref b47, .ref b48, .ref b49, .ref b50, .int 0])), (b1, .inl (y1, 120, .inl (fun _ => 0))), (b19, .inl (y19, 10, .inl (fun _ => 0))), (b20, .inl (y20, 10, .inl (fun _ => 0))), (b21, .inl (y21, 10, .inl (fun _ => 0))), (b22, .inl (y22, 10, .inl (fun _ => 0))), (b23, .inl (y23, 10, .inl (fun _ => 0))), (b24, .inl (y24, 4, .inl (fun _ => 0))), (b25, .inl (y25, 10, .inl (fun _ => 0))), (o0, .inl (cO, 1, .inr (.inl (fun _ => 0))))]) (hS : va_S (fun q : Nat => s.heap.size ≤ q) s.heap H locs) {ls : Array Slot} (hl : lv_has ls 7 [(4, .int 0), (3, .ref o0), (2, .ref g0), (1, .ref h0), (0, .ref b)]) (hlt : l.stackTraces = false) : W p l e room_1 s m #[Value.ref b] below meth c H locs 76 3048 (lw_Z below #[Value.ref b] s) (F0 m 820 ls []) := by
  obtain ⟨hx, hb, hr, hml, hown, hts, hX, hbl, hlocks, hgv⟩ := id C0
  have hown : s.vm.findClass RL = some m.cls := hown
  have hA : ∀ q : Nat, s.heap.size ≤ q → (fun q : Nat => s.heap.size ≤ q) q := fun _ h => h
  have hbA : ¬ (fun q : Nat => s.heap.size ≤ q) b := Nat.not_le.mpr hbl
  refine lv_aload_n hx hb dL_law_820 rfl (lv_at hl 3 rfl) ?_
  refine lv_aload_n hx hb dL_law_821 rfl (lv_at hl 4 rfl) ?_
  refine lv_iload hx hb dL_law_822 (lv_at hl 0 rfl) ?_
  refine lv_iconst (v := 1) hx hb dL_law_824 (by decide) ?_
  refine lv_iadd hx hb dL_law_825 ?_
  refine lv_topi (fun y_1 ey_1 => ?_)
  obtain rfl : y_1 = 1 := ey_1.trans (by decide)
  refine va_sld hx hb hX hbl hbA hS (by unfold vp_in; decide) dL_law_826 ?_
  refine lv_aload_n hx hb dL_law_827 rfl (lv_at hl 4 rfl) ?_
  refine lv_iload hx hb dL_law_828 (lv_at hl 0 rfl) ?_
  refine lv_iconst (v := 2) hx hb dL_law_830 (by decide) ?_
  refine lv_iadd hx hb dL_law_831 ?_
  refine lv_topi (fun y_2 ey_2 => ?_)
  obtain rfl : y_2 = 2 := ey_2.trans (by decide)
  refine va_sld hx hb hX hbl hbA hS (by unfold vp_in; decide) dL_law_832 ?_
  obtain ⟨z_3, ez_3⟩ : ∃ z : Int64, z = Int32.toInt64 (xs (Int32.toNatClampNeg 2)) := ⟨_, rfl⟩
  refine lv_i2l (v := z_3) hx hb dL_law_833 ez_3.symm ?_
  refine lv_bipush (v := 32) hx hb dL_law_834 (by decide) ?_
  refine lv_lshl (v := z_3 <<< (Int32.toInt64 32 &&& 63)) hx hb dL_law_836 rfl ?_
  refine lv_topl (fun z_4 ez_4 => ?_)
  refine lv_aload_n hx hb dL_law_837 rfl (lv_at hl 4 rfl) ?_
  refine lv_iload hx hb dL_law_838 (lv_at hl 0 rfl) ?_
  refine lv_iconst (v := 3) hx hb dL_law_840 (by decide) ?_
  refine lv_iadd hx hb dL_law_841 ?_
  refine lv_topi (fun y_5 ey_5 => ?_)
  obtain rfl : y_5 = 3 := ey_5.trans (by decide)
  refine va_sld hx hb hX hbl hbA hS (by unfold vp_in; decide) dL_law_842 ?_
  obtain ⟨z_6, ez_6⟩ : ∃ z : Int64, z = Int32.toInt64 (xs (Int32.toNatClampNeg 3)) := ⟨_, rfl⟩
  refine lv_i2l (v := z_6) hx hb dL_law_843 ez_6.symm ?_
  refine lv_ldc2 (v := 4294967295) hx hb hown (hts (.constantLong RL 62 (4294967295)) tw_1577) dL_law_844 ?_
  refine lv_land hx hb dL_law_847 ?_
  refine lv_topl (fun z_7 ez_7 => ?_)
  refine lv_lor hx hb dL_law_848 ?_
  refine lv_topl (fun z_8 ez_8 => ?_)
  refine lv_aload_n hx hb dL_law_849 rfl (lv_at hl 4 rfl) ?_
  refine lv_iload hx hb dL_law_850 (lv_at hl 0 rfl) ?_
  refine lv_iconst (v := 4) hx hb dL_law_852 (by decide) ?_
  refine lv_iadd hx hb dL_law_853 ?_
  refine lv_topi (fun y_9 ey_9 => ?_)
  obtain rfl : y_9 = 4 := ey_9.trans (by decide)
  refine va_sld hx hb hX hbl hbA hS (by unfold vp_in; decide) dL_law_854 ?_
  have hPc := hP.sub (ws' := [(h0, .inr (9, [.ref jT, .ref jR, .ref e2, .ref jL, .ref jU, .ref jF, .ref e6, .ref jN, .ref jA, .ref e9])), (jL, .inr (7, [.ref l0, .int 0]))]) [0, 4] rfl
  have hKc := hK.sub (tys' := []) [] rfl
  refine vp_callSi (va_runV (As := [.int (xs (Int32.toNatClampNeg 1)), .long z_8, .int (xs (Int32.toNatClampNeg 4))]) (rest := []) ⟨hx, hb, hml, hown, hts⟩ (c_did9 l dC dI h0 jL (.ref jT : Value) (.ref jR : Value) (.ref e2 : Value) (.ref jU : Value) (.ref jF : Value) (.ref e6 : Value) (.ref jN : Value) (.ref jA : Value) (.ref e9 : Value) (.ref l0 : Value) (xs (Int32.toNatClampNeg 1)) z_8 (xs (Int32.toNatClampNeg 4))) (cwV 3 hts (kG (List.forall_mem_cons.mpr ⟨tw_788, (List.forall_mem_cons.mpr ⟨tw_789, (List.forall_mem_cons.mpr ⟨tw_790, (List.forall_mem_cons.mpr ⟨tw_75, (fun _ h => absurd h List.not_mem_nil)⟩)⟩)⟩)⟩) (by decide +kernel) in_w_c_did9 gw_c_did9) rfl rfl rfl (by decide +kernel) ⟨(Nat.le_of_ble_eq_true rfl), (Nat.le_of_ble_eq_true rfl)⟩) (kR_V kT_blind kT_give (va_recv hKc hPc (ci := 9) (q0 := 0) rfl rfl) hPc hKc) rfl rfl hl.1 rfl (lv_room (Nat.le_of_ble_eq_true rfl)) dL_law_855 ⟨(Nat.le_of_ble_eq_true rfl), (Nat.le_of_ble_eq_true rfl)⟩).run (fun r_10 hw => ?_)
  obtain rfl : r_10 = (-1000) := hw
  refine lv_aload_n hx hb dL_law_858 rfl (lv_at hl 2 rfl) ?_
  refine lv_aload_n hx hb dL_law_859 rfl (lv_at hl 4 rfl) ?_
  refine lv_iload hx hb dL_law_860 (lv_at hl 0 rfl) ?_
  refine lv_iconst (v := 1) hx hb dL_law_862 (by decide) ?_
  refine lv_iadd hx hb dL_law_863 ?_
  refine lv_topi (fun y_11 ey_11 => ?_)
  obtain rfl : y_11 = 1 := ey_11.trans (by decide)
  refine va_sld hx hb hX hbl hbA hS (by unfold vp_in; decide) dL_law_864 ?_
  refine lv_aload_n hx hb dL_law_865 rfl (lv_at hl 4 rfl) ?_
  refine lv_iload hx hb dL_law_866 (lv_at hl 0 rfl) ?_
  refine lv_iconst (v := 2) hx hb dL_law_868 (by decide) ?_
  refine lv_iadd hx hb dL_law_869 ?_
  refine lv_topi (fun y_12 ey_12 => ?_)
  obtain rfl : y_12 = 2 := ey_12.trans (by decide)
  refine va_sld hx hb hX hbl hbA hS (by unfold vp_in; decide) dL_law_870 ?_
  obtain ⟨z_13, ez_13⟩ : ∃ z : Int64, z = Int32.toInt64 (xs (Int32.toNatClampNeg 2)) := ⟨_, rfl⟩
  refine lv_i2l (v := z_13) hx hb dL_law_871 ez_13.symm ?_
  refine lv_bipush (v := 32) hx hb dL_law_872 (by decide) ?_
  refine lv_lshl (v := z_13 <<< (Int32.toInt64 32 &&& 63)) hx hb dL_law_874 rfl ?_
  refine lv_topl (fun z_14 ez_14 => ?_)
  refine lv_aload_n hx hb dL_law_875 rfl (lv_at hl 4 rfl) ?_
  refine lv_iload hx hb dL_law_876 (lv_at hl 0 rfl) ?_
  refine lv_iconst (v := 3) hx hb dL_law_878 (by decide) ?_
  refine lv_iadd hx hb dL_law_879 ?_
  refine lv_topi (fun y_15 ey_15 => ?_)
  obtain rfl : y_15 = 3 := ey_15.trans (by decide)
  refine va_sld hx hb hX hbl hbA hS (by unfold vp_in; decide) dL_law_880 ?_
  obtain ⟨z_16, ez_16⟩ : ∃ z : Int64, z = Int32.toInt64 (xs (Int32.toNatClampNeg 3)) := ⟨_, rfl⟩
  refine lv_i2l (v := z_16) hx hb dL_law_881 ez_16.symm ?_
  refine lv_ldc2 (v := 4294967295) hx hb hown (hts (.constantLong RL 62 (4294967295)) tw_1577) dL_law_882 ?_
  refine lv_land hx hb dL_law_885 ?_
  refine lv_topl (fun z_17 ez_17 => ?_)
  refine lv_lor hx hb dL_law_886 ?_
  refine lv_topl (fun z_18 ez_18 => ?_)
  refine lv_aload_n hx hb dL_law_887 rfl (lv_at hl 4 rfl) ?_
  refine lv_iload hx hb dL_law_888 (lv_at hl 0 rfl) ?_
  refine lv_iconst (v := 4) hx hb dL_law_890 (by decide) ?_
  refine lv_iadd hx hb dL_law_891 ?_
  refine lv_topi (fun y_19 ey_19 => ?_)
  obtain rfl : y_19 = 4 := ey_19.trans (by decide)
  refine va_sld hx hb hX hbl hbA hS (by unfold vp_in; decide) dL_law_892 ?_
  have hPc := hP.sub (ws' := [(g0, .inr (10, [.int 0, .ref b1, .ref b2, .ref b3, .ref b4, .ref b1, .int 0, .int 0, .int 0, .int 0, .int 0, .int 0, .int 0, .int 0, .int 0, .int 0, .ref (ad 5), .ref (ad 7), .int 0, .ref b19, .ref b20, .ref b21, .ref b22, .ref b23, .ref b24, .ref b25, .int 0, .int 0, .ref b28, .ref b29, .ref b30, .ref b31, .ref b32, .ref b33, .ref b34, .ref b35, .ref b36, .int 0, .int 0, .long 0, .ref b40, .ref b41, .ref b42, .ref b43, .ref b44, .int 0, .ref b46, .ref b47, .ref b48, .ref b49, .ref b50, .int 0]))]) [15] rfl
  have hKc := hK.sub (tys' := []) [] rfl
  have hDc := hD.sub (ws' := [(g0, .inr (10, [.int 0, .ref b1, .ref b2, .ref b3, .ref b4, .ref b1, .int 0, .int 0, .int 0, .int 0, .int 0, .int 0, .int 0, .int 0, .int 0, .int 0, .ref (ad 5), .ref (ad 7), .int 0, .ref b19, .ref b20, .ref b21, .ref b22, .ref b23, .ref b24, .ref b25, .int 0, .int 0, .ref b28, .ref b29, .ref b30, .ref b31, .ref b32, .ref b33, .ref b34, .ref b35, .ref b36, .int 0, .int 0, .long 0, .ref b40, .ref b41, .ref b42, .ref b43, .ref b44, .int 0, .ref b46, .ref b47, .ref b48, .ref b49, .ref b50, .int 0]))]) [15] (by decide) rfl
  have hFc := va_free (wc := [(g0, .inr (10, [.int 0, .ref b1, .ref b2, .ref b3, .ref b4, .ref b1, .int 0, .int 0, .int 0, .int 0, .int 0, .int 0, .int 0, .int 0, .int 0, .int 0, .ref (ad 5), .ref (ad 7), .int 0, .ref b19, .ref b20, .ref b21, .ref b22, .ref b23, .ref b24, .ref b25, .int 0, .int 0, .ref b28, .ref b29, .ref b30, .ref b31, .ref b32, .ref b33, .ref b34, .ref b35, .ref b36, .int 0, .int 0, .long 0, .ref b40, .ref b41, .ref b42, .ref b43, .ref b44, .int 0, .ref b46, .ref b47, .ref b48, .ref b49, .ref b50, .int 0]))]) hD hS hA [15] rfl
  refine va_calli (va_runV (As := [.int (xs (Int32.toNatClampNeg 1)), .long z_18, .int (xs (Int32.toNatClampNeg 4))]) (rest := [.int (-1000)]) ⟨hx, hb, hml, hown, hts⟩ (c_did10 l dC dI g0 (.int 0 : Value) (.ref b1 : Value) (.ref b2 : Value) (.ref b3 : Value) (.ref b4 : Value) (.ref b1 : Value) (.int 0 : Value) (.int 0 : Value) (.int 0 : Value) (.int 0 : Value) (.int 0 : Value) (.int 0 : Value) (.int 0 : Value) (.int 0 : Value) (.int 0 : Value) (.ref (ad 5) : Value) (.ref (ad 7) : Value) (.int 0 : Value) (.ref b19 : Value) (.ref b20 : Value) (.ref b21 : Value) (.ref b22 : Value) (.ref b23 : Value) (.ref b24 : Value) (.ref b25 : Value) (.int 0 : Value) (.int 0 : Value) (.ref b28 : Value) (.ref b29 : Value) (.ref b30 : Value) (.ref b31 : Value) (.ref b32 : Value) (.ref b33 : Value) (.ref b34 : Value) (.ref b35 : Value) (.ref b36 : Value) (.int 0 : Value) (.int 0 : Value) (.long 0 : Value) (.ref b40 : Value) (.ref b41 : Value) (.ref b42 : Value) (.ref b43 : Value) (.ref b44 : Value) (.int 0 : Value) (.ref b46 : Value) (.ref b47 : Value) (.ref b48 : Value) (.ref b49 : Value) (.ref b50 : Value) (.int 0 : Value) (xs (Int32.toNatClampNeg 1)) z_18 (xs (Int32.toNatClampNeg 4)) H.size) (cwV 3 hts (kG (List.forall_mem_cons.mpr ⟨tw_1454, (List.forall_mem_cons.mpr ⟨tw_1455, (List.forall_mem_cons.mpr ⟨tw_1456, (List.forall_mem_cons.mpr ⟨tw_85, (fun _ h => absurd h List.not_mem_nil)⟩)⟩)⟩)⟩) (by decide +kernel) in_w_c_did10 gw_c_did10) rfl rfl rfl (by decide +kernel) ⟨(Nat.le_of_ble_eq_true rfl), (Nat.le_of_ble_eq_true rfl)⟩) (kW_V kT_blind kT_give (va_recv hKc hPc (ci := 10) (q0 := 0) rfl rfl) hPc hKc hDc) rfl rfl hl.1 rfl (lv_room (Nat.le_of_ble_eq_true rfl)) dL_law_893 ⟨(Nat.le_of_ble_eq_true rfl), (Nat.le_of_ble_eq_true rfl)⟩) hS (fun q _ h => hFc q h) hFc (fun r_20 u t H1 locs ht hvm hw hB hz1 hk1 hS => ?_)
  have hP1 : va_P (dC, dI) vwCl [] H1 := fun k q h => by simp at h
  have hD1 : va_D (va_A [(g0, .inr (10, [.int 0, .ref b1, .ref b2, .ref b3, .ref b4, .ref b1, .int 0, .int 0, .int 0, .int 0, .int 0, .int 0, .int 0, .int 0, .int 0, .int 0, .ref (ad 5), .ref (ad 7), .int 0, .ref b19, .ref b20, .ref b21, .ref b22, .ref b23, .ref b24, .ref b25, .int 0, .int 0, .ref b28, .ref b29, .ref b30, .ref b31, .ref b32, .ref b33, .ref b34, .ref b35, .ref b36, .int 0, .int 0, .long 0, .ref b40, .ref b41, .ref b42, .ref b43, .ref b44, .int 0, .ref b46, .ref b47, .ref b48, .ref b49, .ref b50, .int 0]))] H.size) [] := ⟨fun i j p q h => by simp at h, fun k q h => by simp at h⟩
  try dsimp only at hw
  obtain ⟨hP, hD⟩ := va_join (wr := [(h0, .inr (9, [.ref jT, .ref jR, .ref e2, .ref jL, .ref jU, .ref jF, .ref e6, .ref jN, .ref jA, .ref e9])), (jT, .inr (8, [.ref t0, .int 0])), (t0, .inl (cC, 120, .inl (fun _ => 0))), (jR, .inr (4, [.ref jT, .ref r1, .ref r2, .int 0, .int 0, .int 0, .ref (ad 0), .ref (ad 0)])), (jL, .inr (7, [.ref l0, .int 0])), (l0, .inl (cL, 6, .inr (.inr (.inr (.inr (fun _ => none)))))), (jU, .inr (7, [.ref m0, .int 0])), (m0, .inl (cM, 8, .inr (.inr (.inr (.inr (fun _ => none)))))), (jF, .inr (2, [.ref f0, .ref f1, .ref f2, .ref f3, .ref f4, .int 0, .int 0, .int 0])), (f0, .inl (z0, 10, .inl (fun _ => 0))), (f1, .inl (z1, 10, .inl (fun _ => 0))), (f2, .inl (z2, 10, .inl (fun _ => 0))), (f4, .inl (z4, 4, .inl (fun _ => 0))), (jN, .inr (3, [.ref n0, .ref n1, .ref n2, .ref n3, .ref n4, .int 0])), (jA, .inr (0, [.ref a0, .ref a1, .ref a2, .ref a3, .int 0])), (b1, .inl (y1, 120, .inl (fun _ => 0))), (b19, .inl (y19, 10, .inl (fun _ => 0))), (b20, .inl (y20, 10, .inl (fun _ => 0))), (b21, .inl (y21, 10, .inl (fun _ => 0))), (b22, .inl (y22, 10, .inl (fun _ => 0))), (b23, .inl (y23, 10, .inl (fun _ => 0))), (b24, .inl (y24, 4, .inl (fun _ => 0))), (b25, .inl (y25, 10, .inl (fun _ => 0))), (o0, .inl (cO, 1, .inr (.inl (fun _ => 0))))]) (w1 := []) hP hD [15] [0, 1, 2, 3, 4, 5, 6, 7, 8, 9, 10, 11, 12, 13, 14, 16, 17, 18, 19, 20, 21, 22, 23, 24] rfl rfl (by decide) (by decide) hk1 hFc hP1 hD1
  generalize H1 = H at hP hS ⊢
  have hP : va_P (dC, dI) vwCl [(h0, .inr (9, [.ref jT, .ref jR, .ref e2, .ref jL, .ref jU, .ref jF, .ref e6, .ref jN, .ref jA, .ref e9])), (jT, .inr (8, [.ref t0, .int 0])), (t0, .inl (cC, 120, .inl (fun _ => 0))), (jR, .inr (4, [.ref jT, .ref r1, .ref r2, .int 0, .int 0, .int 0, .ref (ad 0), .ref (ad 0)])), (jL, .inr (7, [.ref l0, .int 0])), (l0, .inl (cL, 6, .inr (.inr (.inr (.inr (fun _ => none)))))), (jU, .inr (7, [.ref m0, .int 0])), (m0, .inl (cM, 8, .inr (.inr (.inr (.inr (fun _ => none)))))), (jF, .inr (2, [.ref f0, .ref f1, .ref f2, .ref f3, .ref f4, .int 0, .int 0, .int 0])), (f0, .inl (z0, 10, .inl (fun _ => 0))), (f1, .inl (z1, 10, .inl (fun _ => 0))), (f2, .inl (z2, 10, .inl (fun _ => 0))), (f4, .inl (z4, 4, .inl (fun _ => 0))), (jN, .inr (3, [.ref n0, .ref n1, .ref n2, .ref n3, .ref n4, .int 0])), (jA, .inr (0, [.ref a0, .ref a1, .ref a2, .ref a3, .int 0])), (b1, .inl (y1, 120, .inl (fun _ => 0))), (b19, .inl (y19, 10, .inl (fun _ => 0))), (b20, .inl (y20, 10, .inl (fun _ => 0))), (b21, .inl (y21, 10, .inl (fun _ => 0))), (b22, .inl (y22, 10, .inl (fun _ => 0))), (b23, .inl (y23, 10, .inl (fun _ => 0))), (b24, .inl (y24, 4, .inl (fun _ => 0))), (b25, .inl (y25, 10, .inl (fun _ => 0))), (o0, .inl (cO, 1, .inr (.inl (fun _ => 0))))] H := hP
  have hD : va_D (fun q : Nat => s.heap.size ≤ q) [(h0, .inr (9, [.ref jT, .ref jR, .ref e2, .ref jL, .ref jU, .ref jF, .ref e6, .ref jN, .ref jA, .ref e9])), (jT, .inr (8, [.ref t0, .int 0])), (t0, .inl (cC, 120, .inl (fun _ => 0))), (jR, .inr (4, [.ref jT, .ref r1, .ref r2, .int 0, .int 0, .int 0, .ref (ad 0), .ref (ad 0)])), (jL, .inr (7, [.ref l0, .int 0])), (l0, .inl (cL, 6, .inr (.inr (.inr (.inr (fun _ => none)))))), (jU, .inr (7, [.ref m0, .int 0])), (m0, .inl (cM, 8, .inr (.inr (.inr (.inr (fun _ => none)))))), (jF, .inr (2, [.ref f0, .ref f1, .ref f2, .ref f3, .ref f4, .int 0, .int 0, .int 0])), (f0, .inl (z0, 10, .inl (fun _ => 0))), (f1, .inl (z1, 10, .inl (fun _ => 0))), (f2, .inl (z2, 10, .inl (fun _ => 0))), (f4, .inl (z4, 4, .inl (fun _ => 0))), (jN, .inr (3, [.ref n0, .ref n1, .ref n2, .ref n3, .ref n4, .int 0])), (jA, .inr (0, [.ref a0, .ref a1, .ref a2, .ref a3, .int 0])), (b1, .inl (y1, 120, .inl (fun _ => 0))), (b19, .inl (y19, 10, .inl (fun _ => 0))), (b20, .inl (y20, 10, .inl (fun _ => 0))), (b21, .inl (y21, 10, .inl (fun _ => 0))), (b22, .inl (y22, 10, .inl (fun _ => 0))), (b23, .inl (y23, 10, .inl (fun _ => 0))), (b24, .inl (y24, 4, .inl (fun _ => 0))), (b25, .inl (y25, 10, .inl (fun _ => 0))), (o0, .inl (cO, 1, .inr (.inl (fun _ => 0))))] := hD
  obtain rfl : r_20 = (-1000) := hw
  refine lv_icmp_eq (tgt := 1792) hx hb dL_law_896 (by decide) (fun c_21 => ?_) (fun c_21 => absurd (by decide) c_21)
  exact law_tail C0 hS (Nat.le_of_ble_eq_true rfl) (Nat.le_of_ble_eq_true rfl) (lv_sub hl [0, 1, 2, 3, 4] rfl)

theorem dL_law_901 : decode cL_law 901 = .ok (.aload_n 1, 1) := by decide +kernel
theorem dL_law_902 : decode cL_law 902 = .ok (.aload_n 0, 1) := by decide +kernel
theorem dL_law_903 : decode cL_law 903 = .ok (.iload 4, 2) := by decide +kernel
theorem dL_law_905 : decode cL_law 905 = .ok (.iconst 1, 1) := by decide +kernel
theorem dL_law_906 : decode cL_law 906 = .ok (.iadd, 1) := by decide +kernel
theorem dL_law_907 : decode cL_law 907 = .ok (.iaload, 1) := by decide +kernel
theorem dL_law_908 : decode cL_law 908 = .ok (.aload_n 0, 1) := by decide +kernel
theorem dL_law_909 : decode cL_law 909 = .ok (.iload 4, 2) := by decide +kernel
theorem dL_law_911 : decode cL_law 911 = .ok (.iconst 2, 1) := by decide +kernel
theorem dL_law_912 : decode cL_law 912 = .ok (.iadd, 1) := by decide +kernel
theorem dL_law_913 : decode cL_law 913 = .ok (.iaload, 1) := by decide +kernel
theorem dL_law_914 : decode cL_law 914 = .ok (.i2l, 1) := by decide +kernel
theorem dL_law_915 : decode cL_law 915 = .ok (.bipush 32, 2) := by decide +kernel
theorem dL_law_917 : decode cL_law 917 = .ok (.lshl, 1) := by decide +kernel
theorem dL_law_918 : decode cL_law 918 = .ok (.aload_n 0, 1) := by decide +kernel
theorem dL_law_919 : decode cL_law 919 = .ok (.iload 4, 2) := by decide +kernel
theorem dL_law_921 : decode cL_law 921 = .ok (.iconst 3, 1) := by decide +kernel
theorem dL_law_922 : decode cL_law 922 = .ok (.iadd, 1) := by decide +kernel
theorem dL_law_923 : decode cL_law 923 = .ok (.iaload, 1) := by decide +kernel
theorem dL_law_924 : decode cL_law 924 = .ok (.i2l, 1) := by decide +kernel
theorem dL_law_925 : decode cL_law 925 = .ok (.ldc2_w 62, 3) := by decide +kernel
theorem dL_law_928 : decode cL_law 928 = .ok (.land, 1) := by decide +kernel
theorem dL_law_929 : decode cL_law 929 = .ok (.lor, 1) := by decide +kernel
theorem dL_law_930 : decode cL_law 930 = .ok (.aload_n 0, 1) := by decide +kernel
theorem dL_law_931 : decode cL_law 931 = .ok (.iload 4, 2) := by decide +kernel
theorem dL_law_933 : decode cL_law 933 = .ok (.iconst 4, 1) := by decide +kernel
theorem dL_law_934 : decode cL_law 934 = .ok (.iadd, 1) := by decide +kernel
theorem dL_law_935 : decode cL_law 935 = .ok (.iaload, 1) := by decide +kernel
theorem dL_law_936 : decode cL_law 936 = .ok (.aload_n 0, 1) := by decide +kernel
theorem dL_law_937 : decode cL_law 937 = .ok (.iload 4, 2) := by decide +kernel
theorem dL_law_939 : decode cL_law 939 = .ok (.iconst 5, 1) := by decide +kernel
theorem dL_law_940 : decode cL_law 940 = .ok (.iadd, 1) := by decide +kernel
theorem dL_law_941 : decode cL_law 941 = .ok (.iaload, 1) := by decide +kernel
theorem dL_law_942 : decode cL_law 942 = .ok (.invokevirtual 83, 3) := by decide +kernel
theorem dL_law_945 : decode cL_law 945 = .ok (.aload_n 2, 1) := by decide +kernel
theorem dL_law_946 : decode cL_law 946 = .ok (.aload_n 0, 1) := by decide +kernel
theorem dL_law_947 : decode cL_law 947 = .ok (.iload 4, 2) := by decide +kernel
theorem dL_law_949 : decode cL_law 949 = .ok (.iconst 1, 1) := by decide +kernel
theorem dL_law_950 : decode cL_law 950 = .ok (.iadd, 1) := by decide +kernel
theorem dL_law_951 : decode cL_law 951 = .ok (.iaload, 1) := by decide +kernel
theorem dL_law_952 : decode cL_law 952 = .ok (.aload_n 0, 1) := by decide +kernel
theorem dL_law_953 : decode cL_law 953 = .ok (.iload 4, 2) := by decide +kernel
theorem dL_law_955 : decode cL_law 955 = .ok (.iconst 2, 1) := by decide +kernel
theorem dL_law_956 : decode cL_law 956 = .ok (.iadd, 1) := by decide +kernel
theorem dL_law_957 : decode cL_law 957 = .ok (.iaload, 1) := by decide +kernel
theorem dL_law_958 : decode cL_law 958 = .ok (.i2l, 1) := by decide +kernel
theorem dL_law_959 : decode cL_law 959 = .ok (.bipush 32, 2) := by decide +kernel
theorem dL_law_961 : decode cL_law 961 = .ok (.lshl, 1) := by decide +kernel
theorem dL_law_962 : decode cL_law 962 = .ok (.aload_n 0, 1) := by decide +kernel
theorem dL_law_963 : decode cL_law 963 = .ok (.iload 4, 2) := by decide +kernel
theorem dL_law_965 : decode cL_law 965 = .ok (.iconst 3, 1) := by decide +kernel
theorem dL_law_966 : decode cL_law 966 = .ok (.iadd, 1) := by decide +kernel
theorem dL_law_967 : decode cL_law 967 = .ok (.iaload, 1) := by decide +kernel
theorem dL_law_968 : decode cL_law 968 = .ok (.i2l, 1) := by decide +kernel
theorem dL_law_969 : decode cL_law 969 = .ok (.ldc2_w 62, 3) := by decide +kernel
theorem dL_law_972 : decode cL_law 972 = .ok (.land, 1) := by decide +kernel
theorem dL_law_973 : decode cL_law 973 = .ok (.lor, 1) := by decide +kernel
theorem dL_law_974 : decode cL_law 974 = .ok (.aload_n 0, 1) := by decide +kernel
theorem dL_law_975 : decode cL_law 975 = .ok (.iload 4, 2) := by decide +kernel
theorem dL_law_977 : decode cL_law 977 = .ok (.iconst 4, 1) := by decide +kernel
theorem dL_law_978 : decode cL_law 978 = .ok (.iadd, 1) := by decide +kernel
theorem dL_law_979 : decode cL_law 979 = .ok (.iaload, 1) := by decide +kernel
theorem dL_law_980 : decode cL_law 980 = .ok (.aload_n 0, 1) := by decide +kernel
theorem dL_law_981 : decode cL_law 981 = .ok (.iload 4, 2) := by decide +kernel
theorem dL_law_983 : decode cL_law 983 = .ok (.iconst 5, 1) := by decide +kernel
theorem dL_law_984 : decode cL_law 984 = .ok (.iadd, 1) := by decide +kernel
theorem dL_law_985 : decode cL_law 985 = .ok (.iaload, 1) := by decide +kernel
theorem dL_law_986 : decode cL_law 986 = .ok (.invokevirtual 86, 3) := by decide +kernel
theorem dL_law_989 : decode cL_law 989 = .ok (.if_icmp .eq 803, 3) := by decide +kernel
set_option maxHeartbeats 4000000 in
set_option maxRecDepth 100000 in
theorem law_12 {p : Program} {l : Launch} {e : Env} {s : State} {m : MethodId} {below : List Frame} {meth : Method} {c : Code} {b : Nat} {xs : Nat → Int32} {dC : Nat → ClassId} {dI : Nat → Nat → Nat} {ad : Nat → Nat} {h0 : Nat} {g0 : Nat} {o0 : Nat} {jT : Nat} {jR : Nat} {e2 : Nat} {jL : Nat} {jU : Nat} {jF : Nat} {e6 : Nat} {jN : Nat} {jA : Nat} {e9 : Nat} {t0 : Nat} {r1 : Nat} {r2 : Nat} {l0 : Nat} {m0 : Nat} {f0 : Nat} {f1 : Nat} {f2 : Nat} {f3 : Nat} {f4 : Nat} {n0 : Nat} {n1 : Nat} {n2 : Nat} {n3 : Nat} {n4 : Nat} {a0 : Nat} {a1 : Nat} {a2 : Nat} {a3 : Nat} {cC : ClassId} {cL : ClassId} {cM : ClassId} {z0 : ClassId} {z1 : ClassId} {z2 : ClassId} {z4 : ClassId} {b1 : Nat} {b2 : Nat} {b3 : Nat} {b4 : Nat} {b19 : Nat} {b20 : Nat} {b21 : Nat} {b22 : Nat} {b23 : Nat} {b24 : Nat} {b25 : Nat} {b28 : Nat} {b29 : Nat} {b30 : Nat} {b31 : Nat} {b32 : Nat} {b33 : Nat} {b34 : Nat} {b35 : Nat} {b36 : Nat} {b40 : Nat} {b41 : Nat} {b42 : Nat} {b43 : Nat} {b44 : Nat} {b46 : Nat} {b47 : Nat} {b48 : Nat} {b49 : Nat} {b50 : Nat} {y1 : ClassId} {y19 : ClassId} {y20 : ClassId} {y21 : ClassId} {y22 : ClassId} {y23 : ClassId} {y24 : ClassId} {y25 : ClassId} {cO : ClassId} (C0 : lw_At p s m meth c b 7 xs) (hXX : kLaw ad s) {H : Heap} {locs : List Loc} (hK : va_K (dC, dI) vwCl [(cC, .char), (cL, .object RX6), (cM, .object RX6), (z0, .int), (z1, .int), (z2, .int), (z4, .int), (y1, .byte), (y19, .int), (y20, .int), (y21, .int), (y22, .int), (y23, .int), (y24, .int), (y25, .boolean), (cO, .long)] s) (hP : va_P (dC, dI) vwCl [(h0, .inr (9, [.ref jT, .ref jR, .ref e2, .ref jL, .ref jU, .ref jF, .ref e6, .ref jN, .ref jA, .ref e9])), (jT, .inr (8, [.ref t0, .int 0])), (t0, .inl (cC, 120, .inl (fun _ => 0))), (jR, .inr (4, [.ref jT, .ref r1, .ref r2, .int 0, .int 0, .int 0, .ref (ad 0), .ref (ad 0)])), (jL, .inr (7, [.ref l0, .int 0])), (l0, .inl (cL, 6, .inr (.inr (.inr (.inr (fun _ => none)))))), (jU, .inr (7, [.ref m0, .int 0])), (m0, .inl (cM, 8, .inr (.inr (.inr (.inr (fun _ => none)))))), (jF, .inr (2, [.ref f0, .ref f1, .ref f2, .ref f3, .ref f4, .int 0, .int 0, .int 0])), (f0, .inl (z0, 10, .inl (fun _ => 0))), (f1, .inl (z1, 10, .inl (fun _ => 0))), (f2, .inl (z2, 10, .inl (fun _ => 0))), (f4, .inl (z4, 4, .inl (fun _ => 0))), (jN, .inr (3, [.ref n0, .ref n1, .ref n2, .ref n3, .ref n4, .int 0])), (jA, .inr (0, [.ref a0, .ref a1, .ref a2, .ref a3, .int 0])), (g0, .inr (10, [.int 0, .ref b1, .ref b2, .ref b3, .ref b4, .ref b1, .int 0, .int 0, .int 0, .int 0, .int 0, .int 0, .int 0, .int 0, .int 0, .int 0, .ref (ad 5), .ref (ad 7), .int 0, .ref b19, .ref b20, .ref b21, .ref b22, .ref b23, .ref b24, .ref b25, .int 0, .int 0, .ref b28, .ref b29, .ref b30, .ref b31, .ref b32, .ref b33, .ref b34, .ref b35, .ref b36, .int 0, .int 0, .long 0, .ref b40, .ref b41, .ref b42, .ref b43, .ref b44, .int 0, .ref b46, .ref b47, .ref b48, .ref b49, .ref b50, .int 0])), (b1, .inl (y1, 120, .inl (fun _ => 0))), (b19, .inl (y19, 10, .inl (fun _ => 0))), (b20, .inl (y20, 10, .inl (fun _ => 0))), (b21, .inl (y21, 10, .inl (fun _ => 0))), (b22, .inl (y22, 10, .inl (fun _ => 0))), (b23, .inl (y23, 10, .inl (fun _ => 0))), (b24, .inl (y24, 4, .inl (fun _ => 0))), (b25, .inl (y25, 10, .inl (fun _ => 0))), (o0, .inl (cO, 1, .inr (.inl (fun _ => 0))))] H) (hD : va_D (fun q : Nat => s.heap.size ≤ q) [(h0, .inr (9, [.ref jT, .ref jR, .ref e2, .ref jL, .ref jU, .ref jF, .ref e6, .ref jN, .ref jA, .ref e9])), (jT, .inr (8, [.ref t0, .int 0])), (t0, .inl (cC, 120, .inl (fun _ => 0))), (jR, .inr (4, [.ref jT, .ref r1, .ref r2, .int 0, .int 0, .int 0, .ref (ad 0), .ref (ad 0)])), (jL, .inr (7, [.ref l0, .int 0])), (l0, .inl (cL, 6, .inr (.inr (.inr (.inr (fun _ => none)))))), (jU, .inr (7, [.ref m0, .int 0])), (m0, .inl (cM, 8, .inr (.inr (.inr (.inr (fun _ => none)))))), (jF, .inr (2, [.ref f0, .ref f1, .ref f2, .ref f3, .ref f4, .int 0, .int 0, .int 0])), (f0, .inl (z0, 10, .inl (fun _ => 0))), (f1, .inl (z1, 10, .inl (fun _ => 0))), (f2, .inl (z2, 10, .inl (fun _ => 0))), (f4, .inl (z4, 4, .inl (fun _ => 0))), (jN, .inr (3, [.ref n0, .ref n1, .ref n2, .ref n3, .ref n4, .int 0])), (jA, .inr (0, [.ref a0, .ref a1, .ref a2, .ref a3, .int 0])), (g0, .inr (10, [.int 0, .ref b1, .ref b2, .ref b3, .ref b4, .ref b1, .int 0, .int 0, .int 0, .int 0, .int 0, .int 0, .int 0, .int 0, .int 0, .int 0, .ref (ad 5), .ref (ad 7), .int 0, .ref b19, .ref b20, .ref b21, .ref b22, .ref b23, .ref b24, .ref b25, .int 0, .int 0, .ref b28, .ref b29, .ref b30, .ref b31, .ref b32, .ref b33, .ref b34, .ref b35, .ref b36, .int 0, .int 0, .long 0, .ref b40, .ref b41, .ref b42, .ref b43, .ref b44, .int 0, .ref b46, .ref b47, .ref b48, .ref b49, .ref b50, .int 0])), (b1, .inl (y1, 120, .inl (fun _ => 0))), (b19, .inl (y19, 10, .inl (fun _ => 0))), (b20, .inl (y20, 10, .inl (fun _ => 0))), (b21, .inl (y21, 10, .inl (fun _ => 0))), (b22, .inl (y22, 10, .inl (fun _ => 0))), (b23, .inl (y23, 10, .inl (fun _ => 0))), (b24, .inl (y24, 4, .inl (fun _ => 0))), (b25, .inl (y25, 10, .inl (fun _ => 0))), (o0, .inl (cO, 1, .inr (.inl (fun _ => 0))))]) (hS : va_S (fun q : Nat => s.heap.size ≤ q) s.heap H locs) {ls : Array Slot} (hl : lv_has ls 7 [(4, .int 0), (3, .ref o0), (2, .ref g0), (1, .ref h0), (0, .ref b)]) (hlt : l.stackTraces = false) : W p l e room_1 s m #[Value.ref b] below meth c H locs 76 3048 (lw_Z below #[Value.ref b] s) (F0 m 901 ls []) := by
  obtain ⟨hx, hb, hr, hml, hown, hts, hX, hbl, hlocks, hgv⟩ := id C0
  have hown : s.vm.findClass RL = some m.cls := hown
  have hA : ∀ q : Nat, s.heap.size ≤ q → (fun q : Nat => s.heap.size ≤ q) q := fun _ h => h
  have hbA : ¬ (fun q : Nat => s.heap.size ≤ q) b := Nat.not_le.mpr hbl
  refine lv_aload_n hx hb dL_law_901 rfl (lv_at hl 3 rfl) ?_
  refine lv_aload_n hx hb dL_law_902 rfl (lv_at hl 4 rfl) ?_
  refine lv_iload hx hb dL_law_903 (lv_at hl 0 rfl) ?_
  refine lv_iconst (v := 1) hx hb dL_law_905 (by decide) ?_
  refine lv_iadd hx hb dL_law_906 ?_
  refine lv_topi (fun y_1 ey_1 => ?_)
  obtain rfl : y_1 = 1 := ey_1.trans (by decide)
  refine va_sld hx hb hX hbl hbA hS (by unfold vp_in; decide) dL_law_907 ?_
  refine lv_aload_n hx hb dL_law_908 rfl (lv_at hl 4 rfl) ?_
  refine lv_iload hx hb dL_law_909 (lv_at hl 0 rfl) ?_
  refine lv_iconst (v := 2) hx hb dL_law_911 (by decide) ?_
  refine lv_iadd hx hb dL_law_912 ?_
  refine lv_topi (fun y_2 ey_2 => ?_)
  obtain rfl : y_2 = 2 := ey_2.trans (by decide)
  refine va_sld hx hb hX hbl hbA hS (by unfold vp_in; decide) dL_law_913 ?_
  obtain ⟨z_3, ez_3⟩ : ∃ z : Int64, z = Int32.toInt64 (xs (Int32.toNatClampNeg 2)) := ⟨_, rfl⟩
  refine lv_i2l (v := z_3) hx hb dL_law_914 ez_3.symm ?_
  refine lv_bipush (v := 32) hx hb dL_law_915 (by decide) ?_
  refine lv_lshl (v := z_3 <<< (Int32.toInt64 32 &&& 63)) hx hb dL_law_917 rfl ?_
  refine lv_topl (fun z_4 ez_4 => ?_)
  refine lv_aload_n hx hb dL_law_918 rfl (lv_at hl 4 rfl) ?_
  refine lv_iload hx hb dL_law_919 (lv_at hl 0 rfl) ?_
  refine lv_iconst (v := 3) hx hb dL_law_921 (by decide) ?_
  refine lv_iadd hx hb dL_law_922 ?_
  refine lv_topi (fun y_5 ey_5 => ?_)
  obtain rfl : y_5 = 3 := ey_5.trans (by decide)
  refine va_sld hx hb hX hbl hbA hS (by unfold vp_in; decide) dL_law_923 ?_
  obtain ⟨z_6, ez_6⟩ : ∃ z : Int64, z = Int32.toInt64 (xs (Int32.toNatClampNeg 3)) := ⟨_, rfl⟩
  refine lv_i2l (v := z_6) hx hb dL_law_924 ez_6.symm ?_
  refine lv_ldc2 (v := 4294967295) hx hb hown (hts (.constantLong RL 62 (4294967295)) tw_1577) dL_law_925 ?_
  refine lv_land hx hb dL_law_928 ?_
  refine lv_topl (fun z_7 ez_7 => ?_)
  refine lv_lor hx hb dL_law_929 ?_
  refine lv_topl (fun z_8 ez_8 => ?_)
  refine lv_aload_n hx hb dL_law_930 rfl (lv_at hl 4 rfl) ?_
  refine lv_iload hx hb dL_law_931 (lv_at hl 0 rfl) ?_
  refine lv_iconst (v := 4) hx hb dL_law_933 (by decide) ?_
  refine lv_iadd hx hb dL_law_934 ?_
  refine lv_topi (fun y_9 ey_9 => ?_)
  obtain rfl : y_9 = 4 := ey_9.trans (by decide)
  refine va_sld hx hb hX hbl hbA hS (by unfold vp_in; decide) dL_law_935 ?_
  refine lv_aload_n hx hb dL_law_936 rfl (lv_at hl 4 rfl) ?_
  refine lv_iload hx hb dL_law_937 (lv_at hl 0 rfl) ?_
  refine lv_iconst (v := 5) hx hb dL_law_939 (by decide) ?_
  refine lv_iadd hx hb dL_law_940 ?_
  refine lv_topi (fun y_10 ey_10 => ?_)
  obtain rfl : y_10 = 5 := ey_10.trans (by decide)
  refine va_sld hx hb hX hbl hbA hS (by unfold vp_in; decide) dL_law_941 ?_
  have hPc := hP.sub (ws' := [(h0, .inr (9, [.ref jT, .ref jR, .ref e2, .ref jL, .ref jU, .ref jF, .ref e6, .ref jN, .ref jA, .ref e9])), (jL, .inr (7, [.ref l0, .int 0]))]) [0, 4] rfl
  have hKc := hK.sub (tys' := []) [] rfl
  refine vp_callSi (va_runV (As := [.int (xs (Int32.toNatClampNeg 1)), .long z_8, .int (xs (Int32.toNatClampNeg 4)), .int (xs (Int32.toNatClampNeg 5))]) (rest := []) ⟨hx, hb, hml, hown, hts⟩ (c_lean9 l dC dI h0 jL (.ref jT : Value) (.ref jR : Value) (.ref e2 : Value) (.ref jU : Value) (.ref jF : Value) (.ref e6 : Value) (.ref jN : Value) (.ref jA : Value) (.ref e9 : Value) (.ref l0 : Value) (xs (Int32.toNatClampNeg 1)) z_8 (xs (Int32.toNatClampNeg 4)) (xs (Int32.toNatClampNeg 5))) (cwV 4 hts (kG (List.forall_mem_cons.mpr ⟨tw_794, (List.forall_mem_cons.mpr ⟨tw_795, (List.forall_mem_cons.mpr ⟨tw_796, (List.forall_mem_cons.mpr ⟨tw_75, (fun _ h => absurd h List.not_mem_nil)⟩)⟩)⟩)⟩) (by decide +kernel) in_w_c_lean9 gw_c_lean9) rfl rfl rfl (by decide +kernel) ⟨(Nat.le_of_ble_eq_true rfl), (Nat.le_of_ble_eq_true rfl)⟩) (kR_V kT_blind kT_give (va_recv hKc hPc (ci := 9) (q0 := 0) rfl rfl) hPc hKc) rfl rfl hl.1 rfl (lv_room (Nat.le_of_ble_eq_true rfl)) dL_law_942 ⟨(Nat.le_of_ble_eq_true rfl), (Nat.le_of_ble_eq_true rfl)⟩).run (fun r_11 hw => ?_)
  obtain rfl : r_11 = (-1000) := hw
  refine lv_aload_n hx hb dL_law_945 rfl (lv_at hl 2 rfl) ?_
  refine lv_aload_n hx hb dL_law_946 rfl (lv_at hl 4 rfl) ?_
  refine lv_iload hx hb dL_law_947 (lv_at hl 0 rfl) ?_
  refine lv_iconst (v := 1) hx hb dL_law_949 (by decide) ?_
  refine lv_iadd hx hb dL_law_950 ?_
  refine lv_topi (fun y_12 ey_12 => ?_)
  obtain rfl : y_12 = 1 := ey_12.trans (by decide)
  refine va_sld hx hb hX hbl hbA hS (by unfold vp_in; decide) dL_law_951 ?_
  refine lv_aload_n hx hb dL_law_952 rfl (lv_at hl 4 rfl) ?_
  refine lv_iload hx hb dL_law_953 (lv_at hl 0 rfl) ?_
  refine lv_iconst (v := 2) hx hb dL_law_955 (by decide) ?_
  refine lv_iadd hx hb dL_law_956 ?_
  refine lv_topi (fun y_13 ey_13 => ?_)
  obtain rfl : y_13 = 2 := ey_13.trans (by decide)
  refine va_sld hx hb hX hbl hbA hS (by unfold vp_in; decide) dL_law_957 ?_
  obtain ⟨z_14, ez_14⟩ : ∃ z : Int64, z = Int32.toInt64 (xs (Int32.toNatClampNeg 2)) := ⟨_, rfl⟩
  refine lv_i2l (v := z_14) hx hb dL_law_958 ez_14.symm ?_
  refine lv_bipush (v := 32) hx hb dL_law_959 (by decide) ?_
  refine lv_lshl (v := z_14 <<< (Int32.toInt64 32 &&& 63)) hx hb dL_law_961 rfl ?_
  refine lv_topl (fun z_15 ez_15 => ?_)
  refine lv_aload_n hx hb dL_law_962 rfl (lv_at hl 4 rfl) ?_
  refine lv_iload hx hb dL_law_963 (lv_at hl 0 rfl) ?_
  refine lv_iconst (v := 3) hx hb dL_law_965 (by decide) ?_
  refine lv_iadd hx hb dL_law_966 ?_
  refine lv_topi (fun y_16 ey_16 => ?_)
  obtain rfl : y_16 = 3 := ey_16.trans (by decide)
  refine va_sld hx hb hX hbl hbA hS (by unfold vp_in; decide) dL_law_967 ?_
  obtain ⟨z_17, ez_17⟩ : ∃ z : Int64, z = Int32.toInt64 (xs (Int32.toNatClampNeg 3)) := ⟨_, rfl⟩
  refine lv_i2l (v := z_17) hx hb dL_law_968 ez_17.symm ?_
  refine lv_ldc2 (v := 4294967295) hx hb hown (hts (.constantLong RL 62 (4294967295)) tw_1577) dL_law_969 ?_
  refine lv_land hx hb dL_law_972 ?_
  refine lv_topl (fun z_18 ez_18 => ?_)
  refine lv_lor hx hb dL_law_973 ?_
  refine lv_topl (fun z_19 ez_19 => ?_)
  refine lv_aload_n hx hb dL_law_974 rfl (lv_at hl 4 rfl) ?_
  refine lv_iload hx hb dL_law_975 (lv_at hl 0 rfl) ?_
  refine lv_iconst (v := 4) hx hb dL_law_977 (by decide) ?_
  refine lv_iadd hx hb dL_law_978 ?_
  refine lv_topi (fun y_20 ey_20 => ?_)
  obtain rfl : y_20 = 4 := ey_20.trans (by decide)
  refine va_sld hx hb hX hbl hbA hS (by unfold vp_in; decide) dL_law_979 ?_
  refine lv_aload_n hx hb dL_law_980 rfl (lv_at hl 4 rfl) ?_
  refine lv_iload hx hb dL_law_981 (lv_at hl 0 rfl) ?_
  refine lv_iconst (v := 5) hx hb dL_law_983 (by decide) ?_
  refine lv_iadd hx hb dL_law_984 ?_
  refine lv_topi (fun y_21 ey_21 => ?_)
  obtain rfl : y_21 = 5 := ey_21.trans (by decide)
  refine va_sld hx hb hX hbl hbA hS (by unfold vp_in; decide) dL_law_985 ?_
  have hPc := hP.sub (ws' := [(g0, .inr (10, [.int 0, .ref b1, .ref b2, .ref b3, .ref b4, .ref b1, .int 0, .int 0, .int 0, .int 0, .int 0, .int 0, .int 0, .int 0, .int 0, .int 0, .ref (ad 5), .ref (ad 7), .int 0, .ref b19, .ref b20, .ref b21, .ref b22, .ref b23, .ref b24, .ref b25, .int 0, .int 0, .ref b28, .ref b29, .ref b30, .ref b31, .ref b32, .ref b33, .ref b34, .ref b35, .ref b36, .int 0, .int 0, .long 0, .ref b40, .ref b41, .ref b42, .ref b43, .ref b44, .int 0, .ref b46, .ref b47, .ref b48, .ref b49, .ref b50, .int 0]))]) [15] rfl
  have hKc := hK.sub (tys' := []) [] rfl
  have hDc := hD.sub (ws' := [(g0, .inr (10, [.int 0, .ref b1, .ref b2, .ref b3, .ref b4, .ref b1, .int 0, .int 0, .int 0, .int 0, .int 0, .int 0, .int 0, .int 0, .int 0, .int 0, .ref (ad 5), .ref (ad 7), .int 0, .ref b19, .ref b20, .ref b21, .ref b22, .ref b23, .ref b24, .ref b25, .int 0, .int 0, .ref b28, .ref b29, .ref b30, .ref b31, .ref b32, .ref b33, .ref b34, .ref b35, .ref b36, .int 0, .int 0, .long 0, .ref b40, .ref b41, .ref b42, .ref b43, .ref b44, .int 0, .ref b46, .ref b47, .ref b48, .ref b49, .ref b50, .int 0]))]) [15] (by decide) rfl
  have hFc := va_free (wc := [(g0, .inr (10, [.int 0, .ref b1, .ref b2, .ref b3, .ref b4, .ref b1, .int 0, .int 0, .int 0, .int 0, .int 0, .int 0, .int 0, .int 0, .int 0, .int 0, .ref (ad 5), .ref (ad 7), .int 0, .ref b19, .ref b20, .ref b21, .ref b22, .ref b23, .ref b24, .ref b25, .int 0, .int 0, .ref b28, .ref b29, .ref b30, .ref b31, .ref b32, .ref b33, .ref b34, .ref b35, .ref b36, .int 0, .int 0, .long 0, .ref b40, .ref b41, .ref b42, .ref b43, .ref b44, .int 0, .ref b46, .ref b47, .ref b48, .ref b49, .ref b50, .int 0]))]) hD hS hA [15] rfl
  refine va_calli (va_runV (As := [.int (xs (Int32.toNatClampNeg 1)), .long z_19, .int (xs (Int32.toNatClampNeg 4)), .int (xs (Int32.toNatClampNeg 5))]) (rest := [.int (-1000)]) ⟨hx, hb, hml, hown, hts⟩ (c_lean10 l dC dI g0 (.int 0 : Value) (.ref b1 : Value) (.ref b2 : Value) (.ref b3 : Value) (.ref b4 : Value) (.ref b1 : Value) (.int 0 : Value) (.int 0 : Value) (.int 0 : Value) (.int 0 : Value) (.int 0 : Value) (.int 0 : Value) (.int 0 : Value) (.int 0 : Value) (.int 0 : Value) (.ref (ad 5) : Value) (.ref (ad 7) : Value) (.int 0 : Value) (.ref b19 : Value) (.ref b20 : Value) (.ref b21 : Value) (.ref b22 : Value) (.ref b23 : Value) (.ref b24 : Value) (.ref b25 : Value) (.int 0 : Value) (.int 0 : Value) (.ref b28 : Value) (.ref b29 : Value) (.ref b30 : Value) (.ref b31 : Value) (.ref b32 : Value) (.ref b33 : Value) (.ref b34 : Value) (.ref b35 : Value) (.ref b36 : Value) (.int 0 : Value) (.int 0 : Value) (.long 0 : Value) (.ref b40 : Value) (.ref b41 : Value) (.ref b42 : Value) (.ref b43 : Value) (.ref b44 : Value) (.int 0 : Value) (.ref b46 : Value) (.ref b47 : Value) (.ref b48 : Value) (.ref b49 : Value) (.ref b50 : Value) (.int 0 : Value) (xs (Int32.toNatClampNeg 1)) z_19 (xs (Int32.toNatClampNeg 4)) (xs (Int32.toNatClampNeg 5)) H.size) (cwV 4 hts (kG (List.forall_mem_cons.mpr ⟨tw_1466, (List.forall_mem_cons.mpr ⟨tw_1467, (List.forall_mem_cons.mpr ⟨tw_1468, (List.forall_mem_cons.mpr ⟨tw_85, (fun _ h => absurd h List.not_mem_nil)⟩)⟩)⟩)⟩) (by decide +kernel) in_w_c_lean10 gw_c_lean10) rfl rfl rfl (by decide +kernel) ⟨(Nat.le_of_ble_eq_true rfl), (Nat.le_of_ble_eq_true rfl)⟩) (kW_V kT_blind kT_give (va_recv hKc hPc (ci := 10) (q0 := 0) rfl rfl) hPc hKc hDc) rfl rfl hl.1 rfl (lv_room (Nat.le_of_ble_eq_true rfl)) dL_law_986 ⟨(Nat.le_of_ble_eq_true rfl), (Nat.le_of_ble_eq_true rfl)⟩) hS (fun q _ h => hFc q h) hFc (fun r_22 u t H1 locs ht hvm hw hB hz1 hk1 hS => ?_)
  have hP1 : va_P (dC, dI) vwCl [] H1 := fun k q h => by simp at h
  have hD1 : va_D (va_A [(g0, .inr (10, [.int 0, .ref b1, .ref b2, .ref b3, .ref b4, .ref b1, .int 0, .int 0, .int 0, .int 0, .int 0, .int 0, .int 0, .int 0, .int 0, .int 0, .ref (ad 5), .ref (ad 7), .int 0, .ref b19, .ref b20, .ref b21, .ref b22, .ref b23, .ref b24, .ref b25, .int 0, .int 0, .ref b28, .ref b29, .ref b30, .ref b31, .ref b32, .ref b33, .ref b34, .ref b35, .ref b36, .int 0, .int 0, .long 0, .ref b40, .ref b41, .ref b42, .ref b43, .ref b44, .int 0, .ref b46, .ref b47, .ref b48, .ref b49, .ref b50, .int 0]))] H.size) [] := ⟨fun i j p q h => by simp at h, fun k q h => by simp at h⟩
  try dsimp only at hw
  obtain ⟨hP, hD⟩ := va_join (wr := [(h0, .inr (9, [.ref jT, .ref jR, .ref e2, .ref jL, .ref jU, .ref jF, .ref e6, .ref jN, .ref jA, .ref e9])), (jT, .inr (8, [.ref t0, .int 0])), (t0, .inl (cC, 120, .inl (fun _ => 0))), (jR, .inr (4, [.ref jT, .ref r1, .ref r2, .int 0, .int 0, .int 0, .ref (ad 0), .ref (ad 0)])), (jL, .inr (7, [.ref l0, .int 0])), (l0, .inl (cL, 6, .inr (.inr (.inr (.inr (fun _ => none)))))), (jU, .inr (7, [.ref m0, .int 0])), (m0, .inl (cM, 8, .inr (.inr (.inr (.inr (fun _ => none)))))), (jF, .inr (2, [.ref f0, .ref f1, .ref f2, .ref f3, .ref f4, .int 0, .int 0, .int 0])), (f0, .inl (z0, 10, .inl (fun _ => 0))), (f1, .inl (z1, 10, .inl (fun _ => 0))), (f2, .inl (z2, 10, .inl (fun _ => 0))), (f4, .inl (z4, 4, .inl (fun _ => 0))), (jN, .inr (3, [.ref n0, .ref n1, .ref n2, .ref n3, .ref n4, .int 0])), (jA, .inr (0, [.ref a0, .ref a1, .ref a2, .ref a3, .int 0])), (b1, .inl (y1, 120, .inl (fun _ => 0))), (b19, .inl (y19, 10, .inl (fun _ => 0))), (b20, .inl (y20, 10, .inl (fun _ => 0))), (b21, .inl (y21, 10, .inl (fun _ => 0))), (b22, .inl (y22, 10, .inl (fun _ => 0))), (b23, .inl (y23, 10, .inl (fun _ => 0))), (b24, .inl (y24, 4, .inl (fun _ => 0))), (b25, .inl (y25, 10, .inl (fun _ => 0))), (o0, .inl (cO, 1, .inr (.inl (fun _ => 0))))]) (w1 := []) hP hD [15] [0, 1, 2, 3, 4, 5, 6, 7, 8, 9, 10, 11, 12, 13, 14, 16, 17, 18, 19, 20, 21, 22, 23, 24] rfl rfl (by decide) (by decide) hk1 hFc hP1 hD1
  generalize H1 = H at hP hS ⊢
  have hP : va_P (dC, dI) vwCl [(h0, .inr (9, [.ref jT, .ref jR, .ref e2, .ref jL, .ref jU, .ref jF, .ref e6, .ref jN, .ref jA, .ref e9])), (jT, .inr (8, [.ref t0, .int 0])), (t0, .inl (cC, 120, .inl (fun _ => 0))), (jR, .inr (4, [.ref jT, .ref r1, .ref r2, .int 0, .int 0, .int 0, .ref (ad 0), .ref (ad 0)])), (jL, .inr (7, [.ref l0, .int 0])), (l0, .inl (cL, 6, .inr (.inr (.inr (.inr (fun _ => none)))))), (jU, .inr (7, [.ref m0, .int 0])), (m0, .inl (cM, 8, .inr (.inr (.inr (.inr (fun _ => none)))))), (jF, .inr (2, [.ref f0, .ref f1, .ref f2, .ref f3, .ref f4, .int 0, .int 0, .int 0])), (f0, .inl (z0, 10, .inl (fun _ => 0))), (f1, .inl (z1, 10, .inl (fun _ => 0))), (f2, .inl (z2, 10, .inl (fun _ => 0))), (f4, .inl (z4, 4, .inl (fun _ => 0))), (jN, .inr (3, [.ref n0, .ref n1, .ref n2, .ref n3, .ref n4, .int 0])), (jA, .inr (0, [.ref a0, .ref a1, .ref a2, .ref a3, .int 0])), (b1, .inl (y1, 120, .inl (fun _ => 0))), (b19, .inl (y19, 10, .inl (fun _ => 0))), (b20, .inl (y20, 10, .inl (fun _ => 0))), (b21, .inl (y21, 10, .inl (fun _ => 0))), (b22, .inl (y22, 10, .inl (fun _ => 0))), (b23, .inl (y23, 10, .inl (fun _ => 0))), (b24, .inl (y24, 4, .inl (fun _ => 0))), (b25, .inl (y25, 10, .inl (fun _ => 0))), (o0, .inl (cO, 1, .inr (.inl (fun _ => 0))))] H := hP
  have hD : va_D (fun q : Nat => s.heap.size ≤ q) [(h0, .inr (9, [.ref jT, .ref jR, .ref e2, .ref jL, .ref jU, .ref jF, .ref e6, .ref jN, .ref jA, .ref e9])), (jT, .inr (8, [.ref t0, .int 0])), (t0, .inl (cC, 120, .inl (fun _ => 0))), (jR, .inr (4, [.ref jT, .ref r1, .ref r2, .int 0, .int 0, .int 0, .ref (ad 0), .ref (ad 0)])), (jL, .inr (7, [.ref l0, .int 0])), (l0, .inl (cL, 6, .inr (.inr (.inr (.inr (fun _ => none)))))), (jU, .inr (7, [.ref m0, .int 0])), (m0, .inl (cM, 8, .inr (.inr (.inr (.inr (fun _ => none)))))), (jF, .inr (2, [.ref f0, .ref f1, .ref f2, .ref f3, .ref f4, .int 0, .int 0, .int 0])), (f0, .inl (z0, 10, .inl (fun _ => 0))), (f1, .inl (z1, 10, .inl (fun _ => 0))), (f2, .inl (z2, 10, .inl (fun _ => 0))), (f4, .inl (z4, 4, .inl (fun _ => 0))), (jN, .inr (3, [.ref n0, .ref n1, .ref n2, .ref n3, .ref n4, .int 0])), (jA, .inr (0, [.ref a0, .ref a1, .ref a2, .ref a3, .int 0])), (b1, .inl (y1, 120, .inl (fun _ => 0))), (b19, .inl (y19, 10, .inl (fun _ => 0))), (b20, .inl (y20, 10, .inl (fun _ => 0))), (b21, .inl (y21, 10, .inl (fun _ => 0))), (b22, .inl (y22, 10, .inl (fun _ => 0))), (b23, .inl (y23, 10, .inl (fun _ => 0))), (b24, .inl (y24, 4, .inl (fun _ => 0))), (b25, .inl (y25, 10, .inl (fun _ => 0))), (o0, .inl (cO, 1, .inr (.inl (fun _ => 0))))] := hD
  obtain rfl : r_22 = (-1000) := hw
  refine lv_icmp_eq (tgt := 1792) hx hb dL_law_989 (by decide) (fun c_23 => ?_) (fun c_23 => absurd (by decide) c_23)
  exact law_tail C0 hS (Nat.le_of_ble_eq_true rfl) (Nat.le_of_ble_eq_true rfl) (lv_sub hl [0, 1, 2, 3, 4] rfl)

theorem dL_law_994 : decode cL_law 994 = .ok (.aload_n 1, 1) := by decide +kernel
theorem dL_law_995 : decode cL_law 995 = .ok (.aload_n 0, 1) := by decide +kernel
theorem dL_law_996 : decode cL_law 996 = .ok (.iload 4, 2) := by decide +kernel
theorem dL_law_998 : decode cL_law 998 = .ok (.iconst 1, 1) := by decide +kernel
theorem dL_law_999 : decode cL_law 999 = .ok (.iadd, 1) := by decide +kernel
theorem dL_law_1000 : decode cL_law 1000 = .ok (.iaload, 1) := by decide +kernel
theorem dL_law_1001 : decode cL_law 1001 = .ok (.aload_n 0, 1) := by decide +kernel
theorem dL_law_1002 : decode cL_law 1002 = .ok (.iload 4, 2) := by decide +kernel
theorem dL_law_1004 : decode cL_law 1004 = .ok (.iconst 2, 1) := by decide +kernel
theorem dL_law_1005 : decode cL_law 1005 = .ok (.iadd, 1) := by decide +kernel
theorem dL_law_1006 : decode cL_law 1006 = .ok (.iaload, 1) := by decide +kernel
theorem dL_law_1007 : decode cL_law 1007 = .ok (.aload_n 0, 1) := by decide +kernel
theorem dL_law_1008 : decode cL_law 1008 = .ok (.iload 4, 2) := by decide +kernel
theorem dL_law_1010 : decode cL_law 1010 = .ok (.iconst 3, 1) := by decide +kernel
theorem dL_law_1011 : decode cL_law 1011 = .ok (.iadd, 1) := by decide +kernel
theorem dL_law_1012 : decode cL_law 1012 = .ok (.iaload, 1) := by decide +kernel
theorem dL_law_1013 : decode cL_law 1013 = .ok (.aload_n 0, 1) := by decide +kernel
theorem dL_law_1014 : decode cL_law 1014 = .ok (.iload 4, 2) := by decide +kernel
theorem dL_law_1016 : decode cL_law 1016 = .ok (.iconst 4, 1) := by decide +kernel
theorem dL_law_1017 : decode cL_law 1017 = .ok (.iadd, 1) := by decide +kernel
theorem dL_law_1018 : decode cL_law 1018 = .ok (.iaload, 1) := by decide +kernel
theorem dL_law_1019 : decode cL_law 1019 = .ok (.aload_n 0, 1) := by decide +kernel
theorem dL_law_1020 : decode cL_law 1020 = .ok (.iload 4, 2) := by decide +kernel
theorem dL_law_1022 : decode cL_law 1022 = .ok (.iconst 5, 1) := by decide +kernel
theorem dL_law_1023 : decode cL_law 1023 = .ok (.iadd, 1) := by decide +kernel
theorem dL_law_1024 : decode cL_law 1024 = .ok (.iaload, 1) := by decide +kernel
theorem dL_law_1025 : decode cL_law 1025 = .ok (.invokevirtual 87, 3) := by decide +kernel
theorem dL_law_1028 : decode cL_law 1028 = .ok (.aload_n 2, 1) := by decide +kernel
theorem dL_law_1029 : decode cL_law 1029 = .ok (.aload_n 0, 1) := by decide +kernel
theorem dL_law_1030 : decode cL_law 1030 = .ok (.iload 4, 2) := by decide +kernel
theorem dL_law_1032 : decode cL_law 1032 = .ok (.iconst 1, 1) := by decide +kernel
theorem dL_law_1033 : decode cL_law 1033 = .ok (.iadd, 1) := by decide +kernel
theorem dL_law_1034 : decode cL_law 1034 = .ok (.iaload, 1) := by decide +kernel
theorem dL_law_1035 : decode cL_law 1035 = .ok (.aload_n 0, 1) := by decide +kernel
theorem dL_law_1036 : decode cL_law 1036 = .ok (.iload 4, 2) := by decide +kernel
theorem dL_law_1038 : decode cL_law 1038 = .ok (.iconst 2, 1) := by decide +kernel
theorem dL_law_1039 : decode cL_law 1039 = .ok (.iadd, 1) := by decide +kernel
theorem dL_law_1040 : decode cL_law 1040 = .ok (.iaload, 1) := by decide +kernel
theorem dL_law_1041 : decode cL_law 1041 = .ok (.aload_n 0, 1) := by decide +kernel
theorem dL_law_1042 : decode cL_law 1042 = .ok (.iload 4, 2) := by decide +kernel
theorem dL_law_1044 : decode cL_law 1044 = .ok (.iconst 3, 1) := by decide +kernel
theorem dL_law_1045 : decode cL_law 1045 = .ok (.iadd, 1) := by decide +kernel
theorem dL_law_1046 : decode cL_law 1046 = .ok (.iaload, 1) := by decide +kernel
theorem dL_law_1047 : decode cL_law 1047 = .ok (.aload_n 0, 1) := by decide +kernel
theorem dL_law_1048 : decode cL_law 1048 = .ok (.iload 4, 2) := by decide +kernel
theorem dL_law_1050 : decode cL_law 1050 = .ok (.iconst 4, 1) := by decide +kernel
theorem dL_law_1051 : decode cL_law 1051 = .ok (.iadd, 1) := by decide +kernel
theorem dL_law_1052 : decode cL_law 1052 = .ok (.iaload, 1) := by decide +kernel
theorem dL_law_1053 : decode cL_law 1053 = .ok (.aload_n 0, 1) := by decide +kernel
theorem dL_law_1054 : decode cL_law 1054 = .ok (.iload 4, 2) := by decide +kernel
theorem dL_law_1056 : decode cL_law 1056 = .ok (.iconst 5, 1) := by decide +kernel
theorem dL_law_1057 : decode cL_law 1057 = .ok (.iadd, 1) := by decide +kernel
theorem dL_law_1058 : decode cL_law 1058 = .ok (.iaload, 1) := by decide +kernel
theorem dL_law_1059 : decode cL_law 1059 = .ok (.invokevirtual 90, 3) := by decide +kernel
theorem dL_law_1062 : decode cL_law 1062 = .ok (.if_icmp .eq 730, 3) := by decide +kernel
set_option maxHeartbeats 4000000 in
set_option maxRecDepth 100000 in
theorem law_13 {p : Program} {l : Launch} {e : Env} {s : State} {m : MethodId} {below : List Frame} {meth : Method} {c : Code} {b : Nat} {xs : Nat → Int32} {dC : Nat → ClassId} {dI : Nat → Nat → Nat} {ad : Nat → Nat} {h0 : Nat} {g0 : Nat} {o0 : Nat} {jT : Nat} {jR : Nat} {e2 : Nat} {jL : Nat} {jU : Nat} {jF : Nat} {e6 : Nat} {jN : Nat} {jA : Nat} {e9 : Nat} {t0 : Nat} {r1 : Nat} {r2 : Nat} {l0 : Nat} {m0 : Nat} {f0 : Nat} {f1 : Nat} {f2 : Nat} {f3 : Nat} {f4 : Nat} {n0 : Nat} {n1 : Nat} {n2 : Nat} {n3 : Nat} {n4 : Nat} {a0 : Nat} {a1 : Nat} {a2 : Nat} {a3 : Nat} {cC : ClassId} {cL : ClassId} {cM : ClassId} {z0 : ClassId} {z1 : ClassId} {z2 : ClassId} {z4 : ClassId} {b1 : Nat} {b2 : Nat} {b3 : Nat} {b4 : Nat} {b19 : Nat} {b20 : Nat} {b21 : Nat} {b22 : Nat} {b23 : Nat} {b24 : Nat} {b25 : Nat} {b28 : Nat} {b29 : Nat} {b30 : Nat} {b31 : Nat} {b32 : Nat} {b33 : Nat} {b34 : Nat} {b35 : Nat} {b36 : Nat} {b40 : Nat} {b41 : Nat} {b42 : Nat} {b43 : Nat} {b44 : Nat} {b46 : Nat} {b47 : Nat} {b48 : Nat} {b49 : Nat} {b50 : Nat} {y1 : ClassId} {y19 : ClassId} {y20 : ClassId} {y21 : ClassId} {y22 : ClassId} {y23 : ClassId} {y24 : ClassId} {y25 : ClassId} {cO : ClassId} (C0 : lw_At p s m meth c b 7 xs) (hXX : kLaw ad s) {H : Heap} {locs : List Loc} (hK : va_K (dC, dI) vwCl [(cC, .char), (cL, .object RX6), (cM, .object RX6), (z0, .int), (z1, .int), (z2, .int), (z4, .int), (y1, .byte), (y19, .int), (y20, .int), (y21, .int), (y22, .int), (y23, .int), (y24, .int), (y25, .boolean), (cO, .long)] s) (hP : va_P (dC, dI) vwCl [(h0, .inr (9, [.ref jT, .ref jR, .ref e2, .ref jL, .ref jU, .ref jF, .ref e6, .ref jN, .ref jA, .ref e9])), (jT, .inr (8, [.ref t0, .int 0])), (t0, .inl (cC, 120, .inl (fun _ => 0))), (jR, .inr (4, [.ref jT, .ref r1, .ref r2, .int 0, .int 0, .int 0, .ref (ad 0), .ref (ad 0)])), (jL, .inr (7, [.ref l0, .int 0])), (l0, .inl (cL, 6, .inr (.inr (.inr (.inr (fun _ => none)))))), (jU, .inr (7, [.ref m0, .int 0])), (m0, .inl (cM, 8, .inr (.inr (.inr (.inr (fun _ => none)))))), (jF, .inr (2, [.ref f0, .ref f1, .ref f2, .ref f3, .ref f4, .int 0, .int 0, .int 0])), (f0, .inl (z0, 10, .inl (fun _ => 0))), (f1, .inl (z1, 10, .inl (fun _ => 0))), (f2, .inl (z2, 10, .inl (fun _ => 0))), (f4, .inl (z4, 4, .inl (fun _ => 0))), (jN, .inr (3, [.ref n0, .ref n1, .ref n2, .ref n3, .ref n4, .int 0])), (jA, .inr (0, [.ref a0, .ref a1, .ref a2, .ref a3, .int 0])), (g0, .inr (10, [.int 0, .ref b1, .ref b2, .ref b3, .ref b4, .ref b1, .int 0, .int 0, .int 0, .int 0, .int 0, .int 0, .int 0, .int 0, .int 0, .int 0, .ref (ad 5), .ref (ad 7), .int 0, .ref b19, .ref b20, .ref b21, .ref b22, .ref b23, .ref b24, .ref b25, .int 0, .int 0, .ref b28, .ref b29, .ref b30, .ref b31, .ref b32, .ref b33, .ref b34, .ref b35, .ref b36, .int 0, .int 0, .long 0, .ref b40, .ref b41, .ref b42, .ref b43, .ref b44, .int 0, .ref b46, .ref b47, .ref b48, .ref b49, .ref b50, .int 0])), (b1, .inl (y1, 120, .inl (fun _ => 0))), (b19, .inl (y19, 10, .inl (fun _ => 0))), (b20, .inl (y20, 10, .inl (fun _ => 0))), (b21, .inl (y21, 10, .inl (fun _ => 0))), (b22, .inl (y22, 10, .inl (fun _ => 0))), (b23, .inl (y23, 10, .inl (fun _ => 0))), (b24, .inl (y24, 4, .inl (fun _ => 0))), (b25, .inl (y25, 10, .inl (fun _ => 0))), (o0, .inl (cO, 1, .inr (.inl (fun _ => 0))))] H) (hD : va_D (fun q : Nat => s.heap.size ≤ q) [(h0, .inr (9, [.ref jT, .ref jR, .ref e2, .ref jL, .ref jU, .ref jF, .ref e6, .ref jN, .ref jA, .ref e9])), (jT, .inr (8, [.ref t0, .int 0])), (t0, .inl (cC, 120, .inl (fun _ => 0))), (jR, .inr (4, [.ref jT, .ref r1, .ref r2, .int 0, .int 0, .int 0, .ref (ad 0), .ref (ad 0)])), (jL, .inr (7, [.ref l0, .int 0])), (l0, .inl (cL, 6, .inr (.inr (.inr (.inr (fun _ => none)))))), (jU, .inr (7, [.ref m0, .int 0])), (m0, .inl (cM, 8, .inr (.inr (.inr (.inr (fun _ => none)))))), (jF, .inr (2, [.ref f0, .ref f1, .ref f2, .ref f3, .ref f4, .int 0, .int 0, .int 0])), (f0, .inl (z0, 10, .inl (fun _ => 0))), (f1, .inl (z1, 10, .inl (fun _ => 0))), (f2, .inl (z2, 10, .inl (fun _ => 0))), (f4, .inl (z4, 4, .inl (fun _ => 0))), (jN, .inr (3, [.ref n0, .ref n1, .ref n2, .ref n3, .ref n4, .int 0])), (jA, .inr (0, [.ref a0, .ref a1, .ref a2, .ref a3, .int 0])), (g0, .inr (10, [.int 0, .ref b1, .ref b2, .ref b3, .ref b4, .ref b1, .int 0, .int 0, .int 0, .int 0, .int 0, .int 0, .int 0, .int 0, .int 0, .int 0, .ref (ad 5), .ref (ad 7), .int 0, .ref b19, .ref b20, .ref b21, .ref b22, .ref b23, .ref b24, .ref b25, .int 0, .int 0, .ref b28, .ref b29, .ref b30, .ref b31, .ref b32, .ref b33, .ref b34, .ref b35, .ref b36, .int 0, .int 0, .long 0, .ref b40, .ref b41, .ref b42, .ref b43, .ref b44, .int 0, .ref b46, .ref b47, .ref b48, .ref b49, .ref b50, .int 0])), (b1, .inl (y1, 120, .inl (fun _ => 0))), (b19, .inl (y19, 10, .inl (fun _ => 0))), (b20, .inl (y20, 10, .inl (fun _ => 0))), (b21, .inl (y21, 10, .inl (fun _ => 0))), (b22, .inl (y22, 10, .inl (fun _ => 0))), (b23, .inl (y23, 10, .inl (fun _ => 0))), (b24, .inl (y24, 4, .inl (fun _ => 0))), (b25, .inl (y25, 10, .inl (fun _ => 0))), (o0, .inl (cO, 1, .inr (.inl (fun _ => 0))))]) (hS : va_S (fun q : Nat => s.heap.size ≤ q) s.heap H locs) {ls : Array Slot} (hl : lv_has ls 7 [(4, .int 0), (3, .ref o0), (2, .ref g0), (1, .ref h0), (0, .ref b)]) (hlt : l.stackTraces = false) : W p l e room_1 s m #[Value.ref b] below meth c H locs 76 3048 (lw_Z below #[Value.ref b] s) (F0 m 994 ls []) := by
  obtain ⟨hx, hb, hr, hml, hown, hts, hX, hbl, hlocks, hgv⟩ := id C0
  have hown : s.vm.findClass RL = some m.cls := hown
  have hA : ∀ q : Nat, s.heap.size ≤ q → (fun q : Nat => s.heap.size ≤ q) q := fun _ h => h
  have hbA : ¬ (fun q : Nat => s.heap.size ≤ q) b := Nat.not_le.mpr hbl
  refine lv_aload_n hx hb dL_law_994 rfl (lv_at hl 3 rfl) ?_
  refine lv_aload_n hx hb dL_law_995 rfl (lv_at hl 4 rfl) ?_
  refine lv_iload hx hb dL_law_996 (lv_at hl 0 rfl) ?_
  refine lv_iconst (v := 1) hx hb dL_law_998 (by decide) ?_
  refine lv_iadd hx hb dL_law_999 ?_
  refine lv_topi (fun y_1 ey_1 => ?_)
  obtain rfl : y_1 = 1 := ey_1.trans (by decide)
  refine va_sld hx hb hX hbl hbA hS (by unfold vp_in; decide) dL_law_1000 ?_
  refine lv_aload_n hx hb dL_law_1001 rfl (lv_at hl 4 rfl) ?_
  refine lv_iload hx hb dL_law_1002 (lv_at hl 0 rfl) ?_
  refine lv_iconst (v := 2) hx hb dL_law_1004 (by decide) ?_
  refine lv_iadd hx hb dL_law_1005 ?_
  refine lv_topi (fun y_2 ey_2 => ?_)
  obtain rfl : y_2 = 2 := ey_2.trans (by decide)
  refine va_sld hx hb hX hbl hbA hS (by unfold vp_in; decide) dL_law_1006 ?_
  refine lv_aload_n hx hb dL_law_1007 rfl (lv_at hl 4 rfl) ?_
  refine lv_iload hx hb dL_law_1008 (lv_at hl 0 rfl) ?_
  refine lv_iconst (v := 3) hx hb dL_law_1010 (by decide) ?_
  refine lv_iadd hx hb dL_law_1011 ?_
  refine lv_topi (fun y_3 ey_3 => ?_)
  obtain rfl : y_3 = 3 := ey_3.trans (by decide)
  refine va_sld hx hb hX hbl hbA hS (by unfold vp_in; decide) dL_law_1012 ?_
  refine lv_aload_n hx hb dL_law_1013 rfl (lv_at hl 4 rfl) ?_
  refine lv_iload hx hb dL_law_1014 (lv_at hl 0 rfl) ?_
  refine lv_iconst (v := 4) hx hb dL_law_1016 (by decide) ?_
  refine lv_iadd hx hb dL_law_1017 ?_
  refine lv_topi (fun y_4 ey_4 => ?_)
  obtain rfl : y_4 = 4 := ey_4.trans (by decide)
  refine va_sld hx hb hX hbl hbA hS (by unfold vp_in; decide) dL_law_1018 ?_
  refine lv_aload_n hx hb dL_law_1019 rfl (lv_at hl 4 rfl) ?_
  refine lv_iload hx hb dL_law_1020 (lv_at hl 0 rfl) ?_
  refine lv_iconst (v := 5) hx hb dL_law_1022 (by decide) ?_
  refine lv_iadd hx hb dL_law_1023 ?_
  refine lv_topi (fun y_5 ey_5 => ?_)
  obtain rfl : y_5 = 5 := ey_5.trans (by decide)
  refine va_sld hx hb hX hbl hbA hS (by unfold vp_in; decide) dL_law_1024 ?_
  have hPc := hP.sub (ws' := [(h0, .inr (9, [.ref jT, .ref jR, .ref e2, .ref jL, .ref jU, .ref jF, .ref e6, .ref jN, .ref jA, .ref e9])), (jF, .inr (2, [.ref f0, .ref f1, .ref f2, .ref f3, .ref f4, .int 0, .int 0, .int 0]))]) [0, 8] rfl
  have hKc := hK.sub (tys' := []) [] rfl
  refine vp_callSi (va_runV (As := [.int (xs (Int32.toNatClampNeg 1)), .int (xs (Int32.toNatClampNeg 2)), .int (xs (Int32.toNatClampNeg 3)), .int (xs (Int32.toNatClampNeg 4)), .int (xs (Int32.toNatClampNeg 5))]) (rest := []) ⟨hx, hb, hml, hown, hts⟩ (c_note9 l dC dI h0 jF (.ref jT : Value) (.ref jR : Value) (.ref e2 : Value) (.ref jL : Value) (.ref jU : Value) (.ref e6 : Value) (.ref jN : Value) (.ref jA : Value) (.ref e9 : Value) (.ref f0 : Value) (.ref f1 : Value) (.ref f2 : Value) (.ref f3 : Value) (.ref f4 : Value) (.int 0 : Value) (.int 0 : Value) (xs (Int32.toNatClampNeg 1)) (xs (Int32.toNatClampNeg 2)) (xs (Int32.toNatClampNeg 3)) (xs (Int32.toNatClampNeg 4)) (xs (Int32.toNatClampNeg 5))) (cwV 5 hts (kG (List.forall_mem_cons.mpr ⟨tw_807, (List.forall_mem_cons.mpr ⟨tw_808, (List.forall_mem_cons.mpr ⟨tw_809, (List.forall_mem_cons.mpr ⟨tw_75, (fun _ h => absurd h List.not_mem_nil)⟩)⟩)⟩)⟩) (by decide +kernel) in_w_c_note9 gw_c_note9) rfl rfl rfl (by decide +kernel) ⟨(Nat.le_of_ble_eq_true rfl), (Nat.le_of_ble_eq_true rfl)⟩) (kR_V kT_blind kT_give (va_recv hKc hPc (ci := 9) (q0 := 0) rfl rfl) hPc hKc) rfl rfl hl.1 rfl (lv_room (Nat.le_of_ble_eq_true rfl)) dL_law_1025 ⟨(Nat.le_of_ble_eq_true rfl), (Nat.le_of_ble_eq_true rfl)⟩).run (fun r_6 hw => ?_)
  obtain rfl : r_6 = (-1) := hw
  refine lv_aload_n hx hb dL_law_1028 rfl (lv_at hl 2 rfl) ?_
  refine lv_aload_n hx hb dL_law_1029 rfl (lv_at hl 4 rfl) ?_
  refine lv_iload hx hb dL_law_1030 (lv_at hl 0 rfl) ?_
  refine lv_iconst (v := 1) hx hb dL_law_1032 (by decide) ?_
  refine lv_iadd hx hb dL_law_1033 ?_
  refine lv_topi (fun y_7 ey_7 => ?_)
  obtain rfl : y_7 = 1 := ey_7.trans (by decide)
  refine va_sld hx hb hX hbl hbA hS (by unfold vp_in; decide) dL_law_1034 ?_
  refine lv_aload_n hx hb dL_law_1035 rfl (lv_at hl 4 rfl) ?_
  refine lv_iload hx hb dL_law_1036 (lv_at hl 0 rfl) ?_
  refine lv_iconst (v := 2) hx hb dL_law_1038 (by decide) ?_
  refine lv_iadd hx hb dL_law_1039 ?_
  refine lv_topi (fun y_8 ey_8 => ?_)
  obtain rfl : y_8 = 2 := ey_8.trans (by decide)
  refine va_sld hx hb hX hbl hbA hS (by unfold vp_in; decide) dL_law_1040 ?_
  refine lv_aload_n hx hb dL_law_1041 rfl (lv_at hl 4 rfl) ?_
  refine lv_iload hx hb dL_law_1042 (lv_at hl 0 rfl) ?_
  refine lv_iconst (v := 3) hx hb dL_law_1044 (by decide) ?_
  refine lv_iadd hx hb dL_law_1045 ?_
  refine lv_topi (fun y_9 ey_9 => ?_)
  obtain rfl : y_9 = 3 := ey_9.trans (by decide)
  refine va_sld hx hb hX hbl hbA hS (by unfold vp_in; decide) dL_law_1046 ?_
  refine lv_aload_n hx hb dL_law_1047 rfl (lv_at hl 4 rfl) ?_
  refine lv_iload hx hb dL_law_1048 (lv_at hl 0 rfl) ?_
  refine lv_iconst (v := 4) hx hb dL_law_1050 (by decide) ?_
  refine lv_iadd hx hb dL_law_1051 ?_
  refine lv_topi (fun y_10 ey_10 => ?_)
  obtain rfl : y_10 = 4 := ey_10.trans (by decide)
  refine va_sld hx hb hX hbl hbA hS (by unfold vp_in; decide) dL_law_1052 ?_
  refine lv_aload_n hx hb dL_law_1053 rfl (lv_at hl 4 rfl) ?_
  refine lv_iload hx hb dL_law_1054 (lv_at hl 0 rfl) ?_
  refine lv_iconst (v := 5) hx hb dL_law_1056 (by decide) ?_
  refine lv_iadd hx hb dL_law_1057 ?_
  refine lv_topi (fun y_11 ey_11 => ?_)
  obtain rfl : y_11 = 5 := ey_11.trans (by decide)
  refine va_sld hx hb hX hbl hbA hS (by unfold vp_in; decide) dL_law_1058 ?_
  have hPc := hP.sub (ws' := [(g0, .inr (10, [.int 0, .ref b1, .ref b2, .ref b3, .ref b4, .ref b1, .int 0, .int 0, .int 0, .int 0, .int 0, .int 0, .int 0, .int 0, .int 0, .int 0, .ref (ad 5), .ref (ad 7), .int 0, .ref b19, .ref b20, .ref b21, .ref b22, .ref b23, .ref b24, .ref b25, .int 0, .int 0, .ref b28, .ref b29, .ref b30, .ref b31, .ref b32, .ref b33, .ref b34, .ref b35, .ref b36, .int 0, .int 0, .long 0, .ref b40, .ref b41, .ref b42, .ref b43, .ref b44, .int 0, .ref b46, .ref b47, .ref b48, .ref b49, .ref b50, .int 0]))]) [15] rfl
  have hKc := hK.sub (tys' := []) [] rfl
  have hDc := hD.sub (ws' := [(g0, .inr (10, [.int 0, .ref b1, .ref b2, .ref b3, .ref b4, .ref b1, .int 0, .int 0, .int 0, .int 0, .int 0, .int 0, .int 0, .int 0, .int 0, .int 0, .ref (ad 5), .ref (ad 7), .int 0, .ref b19, .ref b20, .ref b21, .ref b22, .ref b23, .ref b24, .ref b25, .int 0, .int 0, .ref b28, .ref b29, .ref b30, .ref b31, .ref b32, .ref b33, .ref b34, .ref b35, .ref b36, .int 0, .int 0, .long 0, .ref b40, .ref b41, .ref b42, .ref b43, .ref b44, .int 0, .ref b46, .ref b47, .ref b48, .ref b49, .ref b50, .int 0]))]) [15] (by decide) rfl
  have hFc := va_free (wc := [(g0, .inr (10, [.int 0, .ref b1, .ref b2, .ref b3, .ref b4, .ref b1, .int 0, .int 0, .int 0, .int 0, .int 0, .int 0, .int 0, .int 0, .int 0, .int 0, .ref (ad 5), .ref (ad 7), .int 0, .ref b19, .ref b20, .ref b21, .ref b22, .ref b23, .ref b24, .ref b25, .int 0, .int 0, .ref b28, .ref b29, .ref b30, .ref b31, .ref b32, .ref b33, .ref b34, .ref b35, .ref b36, .int 0, .int 0, .long 0, .ref b40, .ref b41, .ref b42, .ref b43, .ref b44, .int 0, .ref b46, .ref b47, .ref b48, .ref b49, .ref b50, .int 0]))]) hD hS hA [15] rfl
  refine va_calli (va_runV (As := [.int (xs (Int32.toNatClampNeg 1)), .int (xs (Int32.toNatClampNeg 2)), .int (xs (Int32.toNatClampNeg 3)), .int (xs (Int32.toNatClampNeg 4)), .int (xs (Int32.toNatClampNeg 5))]) (rest := [.int (-1)]) ⟨hx, hb, hml, hown, hts⟩ (c_note10 l dC dI g0 (.int 0 : Value) (.ref b1 : Value) (.ref b2 : Value) (.ref b3 : Value) (.ref b4 : Value) (.ref b1 : Value) (.int 0 : Value) (.int 0 : Value) (.int 0 : Value) (.int 0 : Value) (.int 0 : Value) (.int 0 : Value) (.int 0 : Value) (.int 0 : Value) (.int 0 : Value) (.int 0 : Value) (.ref (ad 5) : Value) (.ref (ad 7) : Value) (.int 0 : Value) (.ref b19 : Value) (.ref b20 : Value) (.ref b21 : Value) (.ref b22 : Value) (.ref b23 : Value) (.ref b24 : Value) (.ref b25 : Value) (.int 0 : Value) (.ref b28 : Value) (.ref b29 : Value) (.ref b30 : Value) (.ref b31 : Value) (.ref b32 : Value) (.ref b33 : Value) (.ref b34 : Value) (.ref b35 : Value) (.ref b36 : Value) (.int 0 : Value) (.int 0 : Value) (.long 0 : Value) (.ref b40 : Value) (.ref b41 : Value) (.ref b42 : Value) (.ref b43 : Value) (.ref b44 : Value) (.ref b46 : Value) (.ref b47 : Value) (.ref b48 : Value) (.ref b49 : Value) (.ref b50 : Value) (.int 0 : Value) (xs (Int32.toNatClampNeg 1)) (xs (Int32.toNatClampNeg 2)) (xs (Int32.toNatClampNeg 3)) (xs (Int32.toNatClampNeg 4)) (xs (Int32.toNatClampNeg 5)) H.size) (cwV 5 hts (kG (List.forall_mem_cons.mpr ⟨tw_1470, (List.forall_mem_cons.mpr ⟨tw_1471, (List.forall_mem_cons.mpr ⟨tw_1472, (List.forall_mem_cons.mpr ⟨tw_85, (fun _ h => absurd h List.not_mem_nil)⟩)⟩)⟩)⟩) (by decide +kernel) in_w_c_note10 gw_c_note10) rfl rfl rfl (by decide +kernel) ⟨(Nat.le_of_ble_eq_true rfl), (Nat.le_of_ble_eq_true rfl)⟩) (kW_V kT_blind kT_give (va_recv hKc hPc (ci := 10) (q0 := 0) rfl rfl) hPc hKc hDc) rfl rfl hl.1 rfl (lv_room (Nat.le_of_ble_eq_true rfl)) dL_law_1059 ⟨(Nat.le_of_ble_eq_true rfl), (Nat.le_of_ble_eq_true rfl)⟩) hS (fun q _ h => hFc q h) hFc (fun r_12 u t H1 locs ht hvm hw hB hz1 hk1 hS => ?_)
  have hP1 : va_P (dC, dI) vwCl [] H1 := fun k q h => by simp at h
  have hD1 : va_D (va_A [(g0, .inr (10, [.int 0, .ref b1, .ref b2, .ref b3, .ref b4, .ref b1, .int 0, .int 0, .int 0, .int 0, .int 0, .int 0, .int 0, .int 0, .int 0, .int 0, .ref (ad 5), .ref (ad 7), .int 0, .ref b19, .ref b20, .ref b21, .ref b22, .ref b23, .ref b24, .ref b25, .int 0, .int 0, .ref b28, .ref b29, .ref b30, .ref b31, .ref b32, .ref b33, .ref b34, .ref b35, .ref b36, .int 0, .int 0, .long 0, .ref b40, .ref b41, .ref b42, .ref b43, .ref b44, .int 0, .ref b46, .ref b47, .ref b48, .ref b49, .ref b50, .int 0]))] H.size) [] := ⟨fun i j p q h => by simp at h, fun k q h => by simp at h⟩
  try dsimp only at hw
  obtain ⟨hP, hD⟩ := va_join (wr := [(h0, .inr (9, [.ref jT, .ref jR, .ref e2, .ref jL, .ref jU, .ref jF, .ref e6, .ref jN, .ref jA, .ref e9])), (jT, .inr (8, [.ref t0, .int 0])), (t0, .inl (cC, 120, .inl (fun _ => 0))), (jR, .inr (4, [.ref jT, .ref r1, .ref r2, .int 0, .int 0, .int 0, .ref (ad 0), .ref (ad 0)])), (jL, .inr (7, [.ref l0, .int 0])), (l0, .inl (cL, 6, .inr (.inr (.inr (.inr (fun _ => none)))))), (jU, .inr (7, [.ref m0, .int 0])), (m0, .inl (cM, 8, .inr (.inr (.inr (.inr (fun _ => none)))))), (jF, .inr (2, [.ref f0, .ref f1, .ref f2, .ref f3, .ref f4, .int 0, .int 0, .int 0])), (f0, .inl (z0, 10, .inl (fun _ => 0))), (f1, .inl (z1, 10, .inl (fun _ => 0))), (f2, .inl (z2, 10, .inl (fun _ => 0))), (f4, .inl (z4, 4, .inl (fun _ => 0))), (jN, .inr (3, [.ref n0, .ref n1, .ref n2, .ref n3, .ref n4, .int 0])), (jA, .inr (0, [.ref a0, .ref a1, .ref a2, .ref a3, .int 0])), (b1, .inl (y1, 120, .inl (fun _ => 0))), (b19, .inl (y19, 10, .inl (fun _ => 0))), (b20, .inl (y20, 10, .inl (fun _ => 0))), (b21, .inl (y21, 10, .inl (fun _ => 0))), (b22, .inl (y22, 10, .inl (fun _ => 0))), (b23, .inl (y23, 10, .inl (fun _ => 0))), (b24, .inl (y24, 4, .inl (fun _ => 0))), (b25, .inl (y25, 10, .inl (fun _ => 0))), (o0, .inl (cO, 1, .inr (.inl (fun _ => 0))))]) (w1 := []) hP hD [15] [0, 1, 2, 3, 4, 5, 6, 7, 8, 9, 10, 11, 12, 13, 14, 16, 17, 18, 19, 20, 21, 22, 23, 24] rfl rfl (by decide) (by decide) hk1 hFc hP1 hD1
  generalize H1 = H at hP hS ⊢
  have hP : va_P (dC, dI) vwCl [(h0, .inr (9, [.ref jT, .ref jR, .ref e2, .ref jL, .ref jU, .ref jF, .ref e6, .ref jN, .ref jA, .ref e9])), (jT, .inr (8, [.ref t0, .int 0])), (t0, .inl (cC, 120, .inl (fun _ => 0))), (jR, .inr (4, [.ref jT, .ref r1, .ref r2, .int 0, .int 0, .int 0, .ref (ad 0), .ref (ad 0)])), (jL, .inr (7, [.ref l0, .int 0])), (l0, .inl (cL, 6, .inr (.inr (.inr (.inr (fun _ => none)))))), (jU, .inr (7, [.ref m0, .int 0])), (m0, .inl (cM, 8, .inr (.inr (.inr (.inr (fun _ => none)))))), (jF, .inr (2, [.ref f0, .ref f1, .ref f2, .ref f3, .ref f4, .int 0, .int 0, .int 0])), (f0, .inl (z0, 10, .inl (fun _ => 0))), (f1, .inl (z1, 10, .inl (fun _ => 0))), (f2, .inl (z2, 10, .inl (fun _ => 0))), (f4, .inl (z4, 4, .inl (fun _ => 0))), (jN, .inr (3, [.ref n0, .ref n1, .ref n2, .ref n3, .ref n4, .int 0])), (jA, .inr (0, [.ref a0, .ref a1, .ref a2, .ref a3, .int 0])), (b1, .inl (y1, 120, .inl (fun _ => 0))), (b19, .inl (y19, 10, .inl (fun _ => 0))), (b20, .inl (y20, 10, .inl (fun _ => 0))), (b21, .inl (y21, 10, .inl (fun _ => 0))), (b22, .inl (y22, 10, .inl (fun _ => 0))), (b23, .inl (y23, 10, .inl (fun _ => 0))), (b24, .inl (y24, 4, .inl (fun _ => 0))), (b25, .inl (y25, 10, .inl (fun _ => 0))), (o0, .inl (cO, 1, .inr (.inl (fun _ => 0))))] H := hP
  have hD : va_D (fun q : Nat => s.heap.size ≤ q) [(h0, .inr (9, [.ref jT, .ref jR, .ref e2, .ref jL, .ref jU, .ref jF, .ref e6, .ref jN, .ref jA, .ref e9])), (jT, .inr (8, [.ref t0, .int 0])), (t0, .inl (cC, 120, .inl (fun _ => 0))), (jR, .inr (4, [.ref jT, .ref r1, .ref r2, .int 0, .int 0, .int 0, .ref (ad 0), .ref (ad 0)])), (jL, .inr (7, [.ref l0, .int 0])), (l0, .inl (cL, 6, .inr (.inr (.inr (.inr (fun _ => none)))))), (jU, .inr (7, [.ref m0, .int 0])), (m0, .inl (cM, 8, .inr (.inr (.inr (.inr (fun _ => none)))))), (jF, .inr (2, [.ref f0, .ref f1, .ref f2, .ref f3, .ref f4, .int 0, .int 0, .int 0])), (f0, .inl (z0, 10, .inl (fun _ => 0))), (f1, .inl (z1, 10, .inl (fun _ => 0))), (f2, .inl (z2, 10, .inl (fun _ => 0))), (f4, .inl (z4, 4, .inl (fun _ => 0))), (jN, .inr (3, [.ref n0, .ref n1, .ref n2, .ref n3, .ref n4, .int 0])), (jA, .inr (0, [.ref a0, .ref a1, .ref a2, .ref a3, .int 0])), (b1, .inl (y1, 120, .inl (fun _ => 0))), (b19, .inl (y19, 10, .inl (fun _ => 0))), (b20, .inl (y20, 10, .inl (fun _ => 0))), (b21, .inl (y21, 10, .inl (fun _ => 0))), (b22, .inl (y22, 10, .inl (fun _ => 0))), (b23, .inl (y23, 10, .inl (fun _ => 0))), (b24, .inl (y24, 4, .inl (fun _ => 0))), (b25, .inl (y25, 10, .inl (fun _ => 0))), (o0, .inl (cO, 1, .inr (.inl (fun _ => 0))))] := hD
  obtain rfl : r_12 = (-1) := hw
  refine lv_icmp_eq (tgt := 1792) hx hb dL_law_1062 (by decide) (fun c_13 => ?_) (fun c_13 => absurd (by decide) c_13)
  exact law_tail C0 hS (Nat.le_of_ble_eq_true rfl) (Nat.le_of_ble_eq_true rfl) (lv_sub hl [0, 1, 2, 3, 4] rfl)

theorem dL_law_1067 : decode cL_law 1067 = .ok (.aload_n 1, 1) := by decide +kernel
theorem dL_law_1068 : decode cL_law 1068 = .ok (.aload_n 0, 1) := by decide +kernel
theorem dL_law_1069 : decode cL_law 1069 = .ok (.iload 4, 2) := by decide +kernel
theorem dL_law_1071 : decode cL_law 1071 = .ok (.iconst 1, 1) := by decide +kernel
theorem dL_law_1072 : decode cL_law 1072 = .ok (.iadd, 1) := by decide +kernel
theorem dL_law_1073 : decode cL_law 1073 = .ok (.iaload, 1) := by decide +kernel
theorem dL_law_1074 : decode cL_law 1074 = .ok (.i2l, 1) := by decide +kernel
theorem dL_law_1075 : decode cL_law 1075 = .ok (.bipush 32, 2) := by decide +kernel
theorem dL_law_1077 : decode cL_law 1077 = .ok (.lshl, 1) := by decide +kernel
theorem dL_law_1078 : decode cL_law 1078 = .ok (.aload_n 0, 1) := by decide +kernel
theorem dL_law_1079 : decode cL_law 1079 = .ok (.iload 4, 2) := by decide +kernel
theorem dL_law_1081 : decode cL_law 1081 = .ok (.iconst 2, 1) := by decide +kernel
theorem dL_law_1082 : decode cL_law 1082 = .ok (.iadd, 1) := by decide +kernel
theorem dL_law_1083 : decode cL_law 1083 = .ok (.iaload, 1) := by decide +kernel
theorem dL_law_1084 : decode cL_law 1084 = .ok (.i2l, 1) := by decide +kernel
theorem dL_law_1085 : decode cL_law 1085 = .ok (.ldc2_w 62, 3) := by decide +kernel
theorem dL_law_1088 : decode cL_law 1088 = .ok (.land, 1) := by decide +kernel
theorem dL_law_1089 : decode cL_law 1089 = .ok (.lor, 1) := by decide +kernel
theorem dL_law_1090 : decode cL_law 1090 = .ok (.aload_n 0, 1) := by decide +kernel
theorem dL_law_1091 : decode cL_law 1091 = .ok (.iload 4, 2) := by decide +kernel
theorem dL_law_1093 : decode cL_law 1093 = .ok (.iconst 3, 1) := by decide +kernel
theorem dL_law_1094 : decode cL_law 1094 = .ok (.iadd, 1) := by decide +kernel
theorem dL_law_1095 : decode cL_law 1095 = .ok (.iaload, 1) := by decide +kernel
theorem dL_law_1096 : decode cL_law 1096 = .ok (.ifCond .eq 7, 3) := by decide +kernel
theorem dL_law_1103 : decode cL_law 1103 = .ok (.iconst 0, 1) := by decide +kernel
theorem dL_law_1104 : decode cL_law 1104 = .ok (.invokevirtual 91, 3) := by decide +kernel
theorem dL_law_1107 : decode cL_law 1107 = .ok (.aload_n 2, 1) := by decide +kernel
theorem dL_law_1108 : decode cL_law 1108 = .ok (.aload_n 0, 1) := by decide +kernel
theorem dL_law_1109 : decode cL_law 1109 = .ok (.iload 4, 2) := by decide +kernel
theorem dL_law_1111 : decode cL_law 1111 = .ok (.iconst 1, 1) := by decide +kernel
theorem dL_law_1112 : decode cL_law 1112 = .ok (.iadd, 1) := by decide +kernel
theorem dL_law_1113 : decode cL_law 1113 = .ok (.iaload, 1) := by decide +kernel
theorem dL_law_1114 : decode cL_law 1114 = .ok (.i2l, 1) := by decide +kernel
theorem dL_law_1115 : decode cL_law 1115 = .ok (.bipush 32, 2) := by decide +kernel
theorem dL_law_1117 : decode cL_law 1117 = .ok (.lshl, 1) := by decide +kernel
theorem dL_law_1118 : decode cL_law 1118 = .ok (.aload_n 0, 1) := by decide +kernel
theorem dL_law_1119 : decode cL_law 1119 = .ok (.iload 4, 2) := by decide +kernel
theorem dL_law_1121 : decode cL_law 1121 = .ok (.iconst 2, 1) := by decide +kernel
theorem dL_law_1122 : decode cL_law 1122 = .ok (.iadd, 1) := by decide +kernel
theorem dL_law_1123 : decode cL_law 1123 = .ok (.iaload, 1) := by decide +kernel
theorem dL_law_1124 : decode cL_law 1124 = .ok (.i2l, 1) := by decide +kernel
theorem dL_law_1125 : decode cL_law 1125 = .ok (.ldc2_w 62, 3) := by decide +kernel
theorem dL_law_1128 : decode cL_law 1128 = .ok (.land, 1) := by decide +kernel
theorem dL_law_1129 : decode cL_law 1129 = .ok (.lor, 1) := by decide +kernel
theorem dL_law_1130 : decode cL_law 1130 = .ok (.aload_n 0, 1) := by decide +kernel
theorem dL_law_1131 : decode cL_law 1131 = .ok (.iload 4, 2) := by decide +kernel
theorem dL_law_1133 : decode cL_law 1133 = .ok (.iconst 3, 1) := by decide +kernel
theorem dL_law_1134 : decode cL_law 1134 = .ok (.iadd, 1) := by decide +kernel
theorem dL_law_1135 : decode cL_law 1135 = .ok (.iaload, 1) := by decide +kernel
theorem dL_law_1136 : decode cL_law 1136 = .ok (.ifCond .eq 7, 3) := by decide +kernel
theorem dL_law_1143 : decode cL_law 1143 = .ok (.iconst 0, 1) := by decide +kernel
theorem dL_law_1144 : decode cL_law 1144 = .ok (.invokevirtual 95, 3) := by decide +kernel
theorem dL_law_1147 : decode cL_law 1147 = .ok (.if_icmp .eq 645, 3) := by decide +kernel
theorem dL_law_1139 : decode cL_law 1139 = .ok (.iconst 1, 1) := by decide +kernel
theorem dL_law_1140 : decode cL_law 1140 = .ok (.goto 4, 3) := by decide +kernel
theorem dL_law_1099 : decode cL_law 1099 = .ok (.iconst 1, 1) := by decide +kernel
theorem dL_law_1100 : decode cL_law 1100 = .ok (.goto 4, 3) := by decide +kernel
set_option maxHeartbeats 4000000 in
set_option maxRecDepth 100000 in
theorem law_14 {p : Program} {l : Launch} {e : Env} {s : State} {m : MethodId} {below : List Frame} {meth : Method} {c : Code} {b : Nat} {xs : Nat → Int32} {dC : Nat → ClassId} {dI : Nat → Nat → Nat} {ad : Nat → Nat} {h0 : Nat} {g0 : Nat} {o0 : Nat} {jT : Nat} {jR : Nat} {e2 : Nat} {jL : Nat} {jU : Nat} {jF : Nat} {e6 : Nat} {jN : Nat} {jA : Nat} {e9 : Nat} {t0 : Nat} {r1 : Nat} {r2 : Nat} {l0 : Nat} {m0 : Nat} {f0 : Nat} {f1 : Nat} {f2 : Nat} {f3 : Nat} {f4 : Nat} {n0 : Nat} {n1 : Nat} {n2 : Nat} {n3 : Nat} {n4 : Nat} {a0 : Nat} {a1 : Nat} {a2 : Nat} {a3 : Nat} {cC : ClassId} {cL : ClassId} {cM : ClassId} {z0 : ClassId} {z1 : ClassId} {z2 : ClassId} {z4 : ClassId} {b1 : Nat} {b2 : Nat} {b3 : Nat} {b4 : Nat} {b19 : Nat} {b20 : Nat} {b21 : Nat} {b22 : Nat} {b23 : Nat} {b24 : Nat} {b25 : Nat} {b28 : Nat} {b29 : Nat} {b30 : Nat} {b31 : Nat} {b32 : Nat} {b33 : Nat} {b34 : Nat} {b35 : Nat} {b36 : Nat} {b40 : Nat} {b41 : Nat} {b42 : Nat} {b43 : Nat} {b44 : Nat} {b46 : Nat} {b47 : Nat} {b48 : Nat} {b49 : Nat} {b50 : Nat} {y1 : ClassId} {y19 : ClassId} {y20 : ClassId} {y21 : ClassId} {y22 : ClassId} {y23 : ClassId} {y24 : ClassId} {y25 : ClassId} {cO : ClassId} (C0 : lw_At p s m meth c b 7 xs) (hXX : kLaw ad s) {H : Heap} {locs : List Loc} (hK : va_K (dC, dI) vwCl [(cC, .char), (cL, .object RX6), (cM, .object RX6), (z0, .int), (z1, .int), (z2, .int), (z4, .int), (y1, .byte), (y19, .int), (y20, .int), (y21, .int), (y22, .int), (y23, .int), (y24, .int), (y25, .boolean), (cO, .long)] s) (hP : va_P (dC, dI) vwCl [(h0, .inr (9, [.ref jT, .ref jR, .ref e2, .ref jL, .ref jU, .ref jF, .ref e6, .ref jN, .ref jA, .ref e9])), (jT, .inr (8, [.ref t0, .int 0])), (t0, .inl (cC, 120, .inl (fun _ => 0))), (jR, .inr (4, [.ref jT, .ref r1, .ref r2, .int 0, .int 0, .int 0, .ref (ad 0), .ref (ad 0)])), (jL, .inr (7, [.ref l0, .int 0])), (l0, .inl (cL, 6, .inr (.inr (.inr (.inr (fun _ => none)))))), (jU, .inr (7, [.ref m0, .int 0])), (m0, .inl (cM, 8, .inr (.inr (.inr (.inr (fun _ => none)))))), (jF, .inr (2, [.ref f0, .ref f1, .ref f2, .ref f3, .ref f4, .int 0, .int 0, .int 0])), (f0, .inl (z0, 10, .inl (fun _ => 0))), (f1, .inl (z1, 10, .inl (fun _ => 0))), (f2, .inl (z2, 10, .inl (fun _ => 0))), (f4, .inl (z4, 4, .inl (fun _ => 0))), (jN, .inr (3, [.ref n0, .ref n1, .ref n2, .ref n3, .ref n4, .int 0])), (jA, .inr (0, [.ref a0, .ref a1, .ref a2, .ref a3, .int 0])), (g0, .inr (10, [.int 0, .ref b1, .ref b2, .ref b3, .ref b4, .ref b1, .int 0, .int 0, .int 0, .int 0, .int 0, .int 0, .int 0, .int 0, .int 0, .int 0, .ref (ad 5), .ref (ad 7), .int 0, .ref b19, .ref b20, .ref b21, .ref b22, .ref b23, .ref b24, .ref b25, .int 0, .int 0, .ref b28, .ref b29, .ref b30, .ref b31, .ref b32, .ref b33, .ref b34, .ref b35, .ref b36, .int 0, .int 0, .long 0, .ref b40, .ref b41, .ref b42, .ref b43, .ref b44, .int 0, .ref b46, .ref b47, .ref b48, .ref b49, .ref b50, .int 0])), (b1, .inl (y1, 120, .inl (fun _ => 0))), (b19, .inl (y19, 10, .inl (fun _ => 0))), (b20, .inl (y20, 10, .inl (fun _ => 0))), (b21, .inl (y21, 10, .inl (fun _ => 0))), (b22, .inl (y22, 10, .inl (fun _ => 0))), (b23, .inl (y23, 10, .inl (fun _ => 0))), (b24, .inl (y24, 4, .inl (fun _ => 0))), (b25, .inl (y25, 10, .inl (fun _ => 0))), (o0, .inl (cO, 1, .inr (.inl (fun _ => 0))))] H) (hD : va_D (fun q : Nat => s.heap.size ≤ q) [(h0, .inr (9, [.ref jT, .ref jR, .ref e2, .ref jL, .ref jU, .ref jF, .ref e6, .ref jN, .ref jA, .ref e9])), (jT, .inr (8, [.ref t0, .int 0])), (t0, .inl (cC, 120, .inl (fun _ => 0))), (jR, .inr (4, [.ref jT, .ref r1, .ref r2, .int 0, .int 0, .int 0, .ref (ad 0), .ref (ad 0)])), (jL, .inr (7, [.ref l0, .int 0])), (l0, .inl (cL, 6, .inr (.inr (.inr (.inr (fun _ => none)))))), (jU, .inr (7, [.ref m0, .int 0])), (m0, .inl (cM, 8, .inr (.inr (.inr (.inr (fun _ => none)))))), (jF, .inr (2, [.ref f0, .ref f1, .ref f2, .ref f3, .ref f4, .int 0, .int 0, .int 0])), (f0, .inl (z0, 10, .inl (fun _ => 0))), (f1, .inl (z1, 10, .inl (fun _ => 0))), (f2, .inl (z2, 10, .inl (fun _ => 0))), (f4, .inl (z4, 4, .inl (fun _ => 0))), (jN, .inr (3, [.ref n0, .ref n1, .ref n2, .ref n3, .ref n4, .int 0])), (jA, .inr (0, [.ref a0, .ref a1, .ref a2, .ref a3, .int 0])), (g0, .inr (10, [.int 0, .ref b1, .ref b2, .ref b3, .ref b4, .ref b1, .int 0, .int 0, .int 0, .int 0, .int 0, .int 0, .int 0, .int 0, .int 0, .int 0, .ref (ad 5), .ref (ad 7), .int 0, .ref b19, .ref b20, .ref b21, .ref b22, .ref b23, .ref b24, .ref b25, .int 0, .int 0, .ref b28, .ref b29, .ref b30, .ref b31, .ref b32, .ref b33, .ref b34, .ref b35, .ref b36, .int 0, .int 0, .long 0, .ref b40, .ref b41, .ref b42, .ref b43, .ref b44, .int 0, .ref b46, .ref b47, .ref b48, .ref b49, .ref b50, .int 0])), (b1, .inl (y1, 120, .inl (fun _ => 0))), (b19, .inl (y19, 10, .inl (fun _ => 0))), (b20, .inl (y20, 10, .inl (fun _ => 0))), (b21, .inl (y21, 10, .inl (fun _ => 0))), (b22, .inl (y22, 10, .inl (fun _ => 0))), (b23, .inl (y23, 10, .inl (fun _ => 0))), (b24, .inl (y24, 4, .inl (fun _ => 0))), (b25, .inl (y25, 10, .inl (fun _ => 0))), (o0, .inl (cO, 1, .inr (.inl (fun _ => 0))))]) (hS : va_S (fun q : Nat => s.heap.size ≤ q) s.heap H locs) {ls : Array Slot} (hl : lv_has ls 7 [(4, .int 0), (3, .ref o0), (2, .ref g0), (1, .ref h0), (0, .ref b)]) (hlt : l.stackTraces = false) : W p l e room_1 s m #[Value.ref b] below meth c H locs 76 3048 (lw_Z below #[Value.ref b] s) (F0 m 1067 ls []) := by
  obtain ⟨hx, hb, hr, hml, hown, hts, hX, hbl, hlocks, hgv⟩ := id C0
  have hown : s.vm.findClass RL = some m.cls := hown
  have hA : ∀ q : Nat, s.heap.size ≤ q → (fun q : Nat => s.heap.size ≤ q) q := fun _ h => h
  have hbA : ¬ (fun q : Nat => s.heap.size ≤ q) b := Nat.not_le.mpr hbl
  refine lv_aload_n hx hb dL_law_1067 rfl (lv_at hl 3 rfl) ?_
  refine lv_aload_n hx hb dL_law_1068 rfl (lv_at hl 4 rfl) ?_
  refine lv_iload hx hb dL_law_1069 (lv_at hl 0 rfl) ?_
  refine lv_iconst (v := 1) hx hb dL_law_1071 (by decide) ?_
  refine lv_iadd hx hb dL_law_1072 ?_
  refine lv_topi (fun y_1 ey_1 => ?_)
  obtain rfl : y_1 = 1 := ey_1.trans (by decide)
  refine va_sld hx hb hX hbl hbA hS (by unfold vp_in; decide) dL_law_1073 ?_
  obtain ⟨z_2, ez_2⟩ : ∃ z : Int64, z = Int32.toInt64 (xs (Int32.toNatClampNeg 1)) := ⟨_, rfl⟩
  refine lv_i2l (v := z_2) hx hb dL_law_1074 ez_2.symm ?_
  refine lv_bipush (v := 32) hx hb dL_law_1075 (by decide) ?_
  refine lv_lshl (v := z_2 <<< (Int32.toInt64 32 &&& 63)) hx hb dL_law_1077 rfl ?_
  refine lv_topl (fun z_3 ez_3 => ?_)
  refine lv_aload_n hx hb dL_law_1078 rfl (lv_at hl 4 rfl) ?_
  refine lv_iload hx hb dL_law_1079 (lv_at hl 0 rfl) ?_
  refine lv_iconst (v := 2) hx hb dL_law_1081 (by decide) ?_
  refine lv_iadd hx hb dL_law_1082 ?_
  refine lv_topi (fun y_4 ey_4 => ?_)
  obtain rfl : y_4 = 2 := ey_4.trans (by decide)
  refine va_sld hx hb hX hbl hbA hS (by unfold vp_in; decide) dL_law_1083 ?_
  obtain ⟨z_5, ez_5⟩ : ∃ z : Int64, z = Int32.toInt64 (xs (Int32.toNatClampNeg 2)) := ⟨_, rfl⟩
  refine lv_i2l (v := z_5) hx hb dL_law_1084 ez_5.symm ?_
  refine lv_ldc2 (v := 4294967295) hx hb hown (hts (.constantLong RL 62 (4294967295)) tw_1577) dL_law_1085 ?_
  refine lv_land hx hb dL_law_1088 ?_
  refine lv_topl (fun z_6 ez_6 => ?_)
  refine lv_lor hx hb dL_law_1089 ?_
  refine lv_topl (fun z_7 ez_7 => ?_)
  refine lv_aload_n hx hb dL_law_1090 rfl (lv_at hl 4 rfl) ?_
  refine lv_iload hx hb dL_law_1091 (lv_at hl 0 rfl) ?_
  refine lv_iconst (v := 3) hx hb dL_law_1093 (by decide) ?_
  refine lv_iadd hx hb dL_law_1094 ?_
  refine lv_topi (fun y_8 ey_8 => ?_)
  obtain rfl : y_8 = 3 := ey_8.trans (by decide)
  refine va_sld hx hb hX hbl hbA hS (by unfold vp_in; decide) dL_law_1095 ?_
  refine lv_if_eq (tgt := 1103) hx hb dL_law_1096 (by decide) (fun c_9 => ?_) (fun c_9 => ?_)
  · refine lv_iconst (v := 0) hx hb dL_law_1103 (by decide) ?_
    have hPc := hP.sub (ws' := [(h0, .inr (9, [.ref jT, .ref jR, .ref e2, .ref jL, .ref jU, .ref jF, .ref e6, .ref jN, .ref jA, .ref e9])), (jL, .inr (7, [.ref l0, .int 0])), (jF, .inr (2, [.ref f0, .ref f1, .ref f2, .ref f3, .ref f4, .int 0, .int 0, .int 0]))]) [0, 4, 8] rfl
    have hKc := hK.sub (tys' := []) [] rfl
    refine vp_callSi (va_runV (As := [.long z_7, .int 0]) (rest := []) ⟨hx, hb, hml, hown, hts⟩ (c_fits9 l dC dI h0 jL jF (.ref jT : Value) (.ref jR : Value) (.ref e2 : Value) (.ref jU : Value) (.ref e6 : Value) (.ref jN : Value) (.ref jA : Value) (.ref e9 : Value) (.ref l0 : Value) (.ref f0 : Value) (.ref f1 : Value) (.ref f2 : Value) (.ref f3 : Value) (.ref f4 : Value) (.int 0 : Value) (.int 0 : Value) z_7 0) (cwV 2 hts (kG (List.forall_mem_cons.mpr ⟨tw_815, (List.forall_mem_cons.mpr ⟨tw_816, (List.forall_mem_cons.mpr ⟨tw_817, (List.forall_mem_cons.mpr ⟨tw_75, (fun _ h => absurd h List.not_mem_nil)⟩)⟩)⟩)⟩) (by decide +kernel) in_w_c_fits9 gw_c_fits9) rfl rfl rfl (by decide +kernel) ⟨(Nat.le_of_ble_eq_true rfl), (Nat.le_of_ble_eq_true rfl)⟩) (kR_V kT_blind kT_give (va_recv hKc hPc (ci := 9) (q0 := 0) rfl rfl) hPc hKc) rfl rfl hl.1 rfl (lv_room (Nat.le_of_ble_eq_true rfl)) dL_law_1104 ⟨(Nat.le_of_ble_eq_true rfl), (Nat.le_of_ble_eq_true rfl)⟩).run (fun r_10 hw => ?_)
    obtain rfl : r_10 = 0 := hw
    refine lv_aload_n hx hb dL_law_1107 rfl (lv_at hl 2 rfl) ?_
    refine lv_aload_n hx hb dL_law_1108 rfl (lv_at hl 4 rfl) ?_
    refine lv_iload hx hb dL_law_1109 (lv_at hl 0 rfl) ?_
    refine lv_iconst (v := 1) hx hb dL_law_1111 (by decide) ?_
    refine lv_iadd hx hb dL_law_1112 ?_
    refine lv_topi (fun y_11 ey_11 => ?_)
    obtain rfl : y_11 = 1 := ey_11.trans (by decide)
    refine va_sld hx hb hX hbl hbA hS (by unfold vp_in; decide) dL_law_1113 ?_
    obtain ⟨z_12, ez_12⟩ : ∃ z : Int64, z = Int32.toInt64 (xs (Int32.toNatClampNeg 1)) := ⟨_, rfl⟩
    refine lv_i2l (v := z_12) hx hb dL_law_1114 ez_12.symm ?_
    refine lv_bipush (v := 32) hx hb dL_law_1115 (by decide) ?_
    refine lv_lshl (v := z_12 <<< (Int32.toInt64 32 &&& 63)) hx hb dL_law_1117 rfl ?_
    refine lv_topl (fun z_13 ez_13 => ?_)
    refine lv_aload_n hx hb dL_law_1118 rfl (lv_at hl 4 rfl) ?_
    refine lv_iload hx hb dL_law_1119 (lv_at hl 0 rfl) ?_
    refine lv_iconst (v := 2) hx hb dL_law_1121 (by decide) ?_
    refine lv_iadd hx hb dL_law_1122 ?_
    refine lv_topi (fun y_14 ey_14 => ?_)
    obtain rfl : y_14 = 2 := ey_14.trans (by decide)
    refine va_sld hx hb hX hbl hbA hS (by unfold vp_in; decide) dL_law_1123 ?_
    obtain ⟨z_15, ez_15⟩ : ∃ z : Int64, z = Int32.toInt64 (xs (Int32.toNatClampNeg 2)) := ⟨_, rfl⟩
    refine lv_i2l (v := z_15) hx hb dL_law_1124 ez_15.symm ?_
    refine lv_ldc2 (v := 4294967295) hx hb hown (hts (.constantLong RL 62 (4294967295)) tw_1577) dL_law_1125 ?_
    refine lv_land hx hb dL_law_1128 ?_
    refine lv_topl (fun z_16 ez_16 => ?_)
    refine lv_lor hx hb dL_law_1129 ?_
    refine lv_topl (fun z_17 ez_17 => ?_)
    refine lv_aload_n hx hb dL_law_1130 rfl (lv_at hl 4 rfl) ?_
    refine lv_iload hx hb dL_law_1131 (lv_at hl 0 rfl) ?_
    refine lv_iconst (v := 3) hx hb dL_law_1133 (by decide) ?_
    refine lv_iadd hx hb dL_law_1134 ?_
    refine lv_topi (fun y_18 ey_18 => ?_)
    obtain rfl : y_18 = 3 := ey_18.trans (by decide)
    refine va_sld hx hb hX hbl hbA hS (by unfold vp_in; decide) dL_law_1135 ?_
    refine lv_if_eq (tgt := 1143) hx hb dL_law_1136 (by decide) (fun c_19 => ?_) (fun c_19 => ?_)
    · refine lv_iconst (v := 0) hx hb dL_law_1143 (by decide) ?_
      have hPc := hP.sub (ws' := [(g0, .inr (10, [.int 0, .ref b1, .ref b2, .ref b3, .ref b4, .ref b1, .int 0, .int 0, .int 0, .int 0, .int 0, .int 0, .int 0, .int 0, .int 0, .int 0, .ref (ad 5), .ref (ad 7), .int 0, .ref b19, .ref b20, .ref b21, .ref b22, .ref b23, .ref b24, .ref b25, .int 0, .int 0, .ref b28, .ref b29, .ref b30, .ref b31, .ref b32, .ref b33, .ref b34, .ref b35, .ref b36, .int 0, .int 0, .long 0, .ref b40, .ref b41, .ref b42, .ref b43, .ref b44, .int 0, .ref b46, .ref b47, .ref b48, .ref b49, .ref b50, .int 0]))]) [15] rfl
      have hKc := hK.sub (tys' := []) [] rfl
      have hDc := hD.sub (ws' := [(g0, .inr (10, [.int 0, .ref b1, .ref b2, .ref b3, .ref b4, .ref b1, .int 0, .int 0, .int 0, .int 0, .int 0, .int 0, .int 0, .int 0, .int 0, .int 0, .ref (ad 5), .ref (ad 7), .int 0, .ref b19, .ref b20, .ref b21, .ref b22, .ref b23, .ref b24, .ref b25, .int 0, .int 0, .ref b28, .ref b29, .ref b30, .ref b31, .ref b32, .ref b33, .ref b34, .ref b35, .ref b36, .int 0, .int 0, .long 0, .ref b40, .ref b41, .ref b42, .ref b43, .ref b44, .int 0, .ref b46, .ref b47, .ref b48, .ref b49, .ref b50, .int 0]))]) [15] (by decide) rfl
      have hFc := va_free (wc := [(g0, .inr (10, [.int 0, .ref b1, .ref b2, .ref b3, .ref b4, .ref b1, .int 0, .int 0, .int 0, .int 0, .int 0, .int 0, .int 0, .int 0, .int 0, .int 0, .ref (ad 5), .ref (ad 7), .int 0, .ref b19, .ref b20, .ref b21, .ref b22, .ref b23, .ref b24, .ref b25, .int 0, .int 0, .ref b28, .ref b29, .ref b30, .ref b31, .ref b32, .ref b33, .ref b34, .ref b35, .ref b36, .int 0, .int 0, .long 0, .ref b40, .ref b41, .ref b42, .ref b43, .ref b44, .int 0, .ref b46, .ref b47, .ref b48, .ref b49, .ref b50, .int 0]))]) hD hS hA [15] rfl
      refine va_calli (va_runV (As := [.long z_17, .int 0]) (rest := [.int 0]) ⟨hx, hb, hml, hown, hts⟩ (c_fits10 l dC dI g0 (.int 0 : Value) (.ref b1 : Value) (.ref b2 : Value) (.ref b3 : Value) (.ref b4 : Value) (.ref b1 : Value) (.int 0 : Value) (.int 0 : Value) (.int 0 : Value) (.int 0 : Value) (.int 0 : Value) (.int 0 : Value) (.int 0 : Value) (.int 0 : Value) (.int 0 : Value) (.ref (ad 5) : Value) (.ref (ad 7) : Value) (.int 0 : Value) (.ref b19 : Value) (.ref b20 : Value) (.ref b21 : Value) (.ref b22 : Value) (.ref b23 : Value) (.ref b24 : Value) (.ref b25 : Value) (.int 0 : Value) (.int 0 : Value) (.ref b28 : Value) (.ref b29 : Value) (.ref b30 : Value) (.ref b31 : Value) (.ref b32 : Value) (.ref b33 : Value) (.ref b34 : Value) (.ref b35 : Value) (.ref b36 : Value) (.int 0 : Value) (.int 0 : Value) (.long 0 : Value) (.ref b40 : Value) (.ref b41 : Value) (.ref b42 : Value) (.ref b43 : Value) (.ref b44 : Value) (.int 0 : Value) (.ref b46 : Value) (.ref b47 : Value) (.ref b48 : Value) (.ref b49 : Value) (.ref b50 : Value) (.int 0 : Value) z_17 0 H.size) (cwV 2 hts (kG (List.forall_mem_cons.mpr ⟨tw_1474, (List.forall_mem_cons.mpr ⟨tw_1475, (List.forall_mem_cons.mpr ⟨tw_1476, (List.forall_mem_cons.mpr ⟨tw_85, (fun _ h => absurd h List.not_mem_nil)⟩)⟩)⟩)⟩) (by decide +kernel) in_w_c_fits10 gw_c_fits10) rfl rfl rfl (by decide +kernel) ⟨(Nat.le_of_ble_eq_true rfl), (Nat.le_of_ble_eq_true rfl)⟩) (kW_V kT_blind kT_give (va_recv hKc hPc (ci := 10) (q0 := 0) rfl rfl) hPc hKc hDc) rfl rfl hl.1 rfl (lv_room (Nat.le_of_ble_eq_true rfl)) dL_law_1144 ⟨(Nat.le_of_ble_eq_true rfl), (Nat.le_of_ble_eq_true rfl)⟩) hS (fun q _ h => hFc q h) hFc (fun r_20 u t H1 locs ht hvm hw hB hz1 hk1 hS => ?_)
      have hP1 : va_P (dC, dI) vwCl [] H1 := fun k q h => by simp at h
      have hD1 : va_D (va_A [(g0, .inr (10, [.int 0, .ref b1, .ref b2, .ref b3, .ref b4, .ref b1, .int 0, .int 0, .int 0, .int 0, .int 0, .int 0, .int 0, .int 0, .int 0, .int 0, .ref (ad 5), .ref (ad 7), .int 0, .ref b19, .ref b20, .ref b21, .ref b22, .ref b23, .ref b24, .ref b25, .int 0, .int 0, .ref b28, .ref b29, .ref b30, .ref b31, .ref b32, .ref b33, .ref b34, .ref b35, .ref b36, .int 0, .int 0, .long 0, .ref b40, .ref b41, .ref b42, .ref b43, .ref b44, .int 0, .ref b46, .ref b47, .ref b48, .ref b49, .ref b50, .int 0]))] H.size) [] := ⟨fun i j p q h => by simp at h, fun k q h => by simp at h⟩
      try dsimp only at hw
      obtain ⟨hP, hD⟩ := va_join (wr := [(h0, .inr (9, [.ref jT, .ref jR, .ref e2, .ref jL, .ref jU, .ref jF, .ref e6, .ref jN, .ref jA, .ref e9])), (jT, .inr (8, [.ref t0, .int 0])), (t0, .inl (cC, 120, .inl (fun _ => 0))), (jR, .inr (4, [.ref jT, .ref r1, .ref r2, .int 0, .int 0, .int 0, .ref (ad 0), .ref (ad 0)])), (jL, .inr (7, [.ref l0, .int 0])), (l0, .inl (cL, 6, .inr (.inr (.inr (.inr (fun _ => none)))))), (jU, .inr (7, [.ref m0, .int 0])), (m0, .inl (cM, 8, .inr (.inr (.inr (.inr (fun _ => none)))))), (jF, .inr (2, [.ref f0, .ref f1, .ref f2, .ref f3, .ref f4, .int 0, .int 0, .int 0])), (f0, .inl (z0, 10, .inl (fun _ => 0))), (f1, .inl (z1, 10, .inl (fun _ => 0))), (f2, .inl (z2, 10, .inl (fun _ => 0))), (f4, .inl (z4, 4, .inl (fun _ => 0))), (jN, .inr (3, [.ref n0, .ref n1, .ref n2, .ref n3, .ref n4, .int 0])), (jA, .inr (0, [.ref a0, .ref a1, .ref a2, .ref a3, .int 0])), (b1, .inl (y1, 120, .inl (fun _ => 0))), (b19, .inl (y19, 10, .inl (fun _ => 0))), (b20, .inl (y20, 10, .inl (fun _ => 0))), (b21, .inl (y21, 10, .inl (fun _ => 0))), (b22, .inl (y22, 10, .inl (fun _ => 0))), (b23, .inl (y23, 10, .inl (fun _ => 0))), (b24, .inl (y24, 4, .inl (fun _ => 0))), (b25, .inl (y25, 10, .inl (fun _ => 0))), (o0, .inl (cO, 1, .inr (.inl (fun _ => 0))))]) (w1 := []) hP hD [15] [0, 1, 2, 3, 4, 5, 6, 7, 8, 9, 10, 11, 12, 13, 14, 16, 17, 18, 19, 20, 21, 22, 23, 24] rfl rfl (by decide) (by decide) hk1 hFc hP1 hD1
      generalize H1 = H at hP hS ⊢
      have hP : va_P (dC, dI) vwCl [(h0, .inr (9, [.ref jT, .ref jR, .ref e2, .ref jL, .ref jU, .ref jF, .ref e6, .ref jN, .ref jA, .ref e9])), (jT, .inr (8, [.ref t0, .int 0])), (t0, .inl (cC, 120, .inl (fun _ => 0))), (jR, .inr (4, [.ref jT, .ref r1, .ref r2, .int 0, .int 0, .int 0, .ref (ad 0), .ref (ad 0)])), (jL, .inr (7, [.ref l0, .int 0])), (l0, .inl (cL, 6, .inr (.inr (.inr (.inr (fun _ => none)))))), (jU, .inr (7, [.ref m0, .int 0])), (m0, .inl (cM, 8, .inr (.inr (.inr (.inr (fun _ => none)))))), (jF, .inr (2, [.ref f0, .ref f1, .ref f2, .ref f3, .ref f4, .int 0, .int 0, .int 0])), (f0, .inl (z0, 10, .inl (fun _ => 0))), (f1, .inl (z1, 10, .inl (fun _ => 0))), (f2, .inl (z2, 10, .inl (fun _ => 0))), (f4, .inl (z4, 4, .inl (fun _ => 0))), (jN, .inr (3, [.ref n0, .ref n1, .ref n2, .ref n3, .ref n4, .int 0])), (jA, .inr (0, [.ref a0, .ref a1, .ref a2, .ref a3, .int 0])), (b1, .inl (y1, 120, .inl (fun _ => 0))), (b19, .inl (y19, 10, .inl (fun _ => 0))), (b20, .inl (y20, 10, .inl (fun _ => 0))), (b21, .inl (y21, 10, .inl (fun _ => 0))), (b22, .inl (y22, 10, .inl (fun _ => 0))), (b23, .inl (y23, 10, .inl (fun _ => 0))), (b24, .inl (y24, 4, .inl (fun _ => 0))), (b25, .inl (y25, 10, .inl (fun _ => 0))), (o0, .inl (cO, 1, .inr (.inl (fun _ => 0))))] H := hP
      have hD : va_D (fun q : Nat => s.heap.size ≤ q) [(h0, .inr (9, [.ref jT, .ref jR, .ref e2, .ref jL, .ref jU, .ref jF, .ref e6, .ref jN, .ref jA, .ref e9])), (jT, .inr (8, [.ref t0, .int 0])), (t0, .inl (cC, 120, .inl (fun _ => 0))), (jR, .inr (4, [.ref jT, .ref r1, .ref r2, .int 0, .int 0, .int 0, .ref (ad 0), .ref (ad 0)])), (jL, .inr (7, [.ref l0, .int 0])), (l0, .inl (cL, 6, .inr (.inr (.inr (.inr (fun _ => none)))))), (jU, .inr (7, [.ref m0, .int 0])), (m0, .inl (cM, 8, .inr (.inr (.inr (.inr (fun _ => none)))))), (jF, .inr (2, [.ref f0, .ref f1, .ref f2, .ref f3, .ref f4, .int 0, .int 0, .int 0])), (f0, .inl (z0, 10, .inl (fun _ => 0))), (f1, .inl (z1, 10, .inl (fun _ => 0))), (f2, .inl (z2, 10, .inl (fun _ => 0))), (f4, .inl (z4, 4, .inl (fun _ => 0))), (jN, .inr (3, [.ref n0, .ref n1, .ref n2, .ref n3, .ref n4, .int 0])), (jA, .inr (0, [.ref a0, .ref a1, .ref a2, .ref a3, .int 0])), (b1, .inl (y1, 120, .inl (fun _ => 0))), (b19, .inl (y19, 10, .inl (fun _ => 0))), (b20, .inl (y20, 10, .inl (fun _ => 0))), (b21, .inl (y21, 10, .inl (fun _ => 0))), (b22, .inl (y22, 10, .inl (fun _ => 0))), (b23, .inl (y23, 10, .inl (fun _ => 0))), (b24, .inl (y24, 4, .inl (fun _ => 0))), (b25, .inl (y25, 10, .inl (fun _ => 0))), (o0, .inl (cO, 1, .inr (.inl (fun _ => 0))))] := hD
      obtain rfl : r_20 = 0 := hw
      refine lv_icmp_eq (tgt := 1792) hx hb dL_law_1147 (by decide) (fun c_21 => ?_) (fun c_21 => absurd (by decide) c_21)
      exact law_tail C0 hS (Nat.le_of_ble_eq_true rfl) (Nat.le_of_ble_eq_true rfl) (lv_sub hl [0, 1, 2, 3, 4] rfl)
    · refine lv_iconst (v := 1) hx hb dL_law_1139 (by decide) ?_
      refine lv_goto (tgt := 1144) hx hb dL_law_1140 (by decide) ?_
      have hPc := hP.sub (ws' := [(g0, .inr (10, [.int 0, .ref b1, .ref b2, .ref b3, .ref b4, .ref b1, .int 0, .int 0, .int 0, .int 0, .int 0, .int 0, .int 0, .int 0, .int 0, .int 0, .ref (ad 5), .ref (ad 7), .int 0, .ref b19, .ref b20, .ref b21, .ref b22, .ref b23, .ref b24, .ref b25, .int 0, .int 0, .ref b28, .ref b29, .ref b30, .ref b31, .ref b32, .ref b33, .ref b34, .ref b35, .ref b36, .int 0, .int 0, .long 0, .ref b40, .ref b41, .ref b42, .ref b43, .ref b44, .int 0, .ref b46, .ref b47, .ref b48, .ref b49, .ref b50, .int 0]))]) [15] rfl
      have hKc := hK.sub (tys' := []) [] rfl
      have hDc := hD.sub (ws' := [(g0, .inr (10, [.int 0, .ref b1, .ref b2, .ref b3, .ref b4, .ref b1, .int 0, .int 0, .int 0, .int 0, .int 0, .int 0, .int 0, .int 0, .int 0, .int 0, .ref (ad 5), .ref (ad 7), .int 0, .ref b19, .ref b20, .ref b21, .ref b22, .ref b23, .ref b24, .ref b25, .int 0, .int 0, .ref b28, .ref b29, .ref b30, .ref b31, .ref b32, .ref b33, .ref b34, .ref b35, .ref b36, .int 0, .int 0, .long 0, .ref b40, .ref b41, .ref b42, .ref b43, .ref b44, .int 0, .ref b46, .ref b47, .ref b48, .ref b49, .ref b50, .int 0]))]) [15] (by decide) rfl
      have hFc := va_free (wc := [(g0, .inr (10, [.int 0, .ref b1, .ref b2, .ref b3, .ref b4, .ref b1, .int 0, .int 0, .int 0, .int 0, .int 0, .int 0, .int 0, .int 0, .int 0, .int 0, .ref (ad 5), .ref (ad 7), .int 0, .ref b19, .ref b20, .ref b21, .ref b22, .ref b23, .ref b24, .ref b25, .int 0, .int 0, .ref b28, .ref b29, .ref b30, .ref b31, .ref b32, .ref b33, .ref b34, .ref b35, .ref b36, .int 0, .int 0, .long 0, .ref b40, .ref b41, .ref b42, .ref b43, .ref b44, .int 0, .ref b46, .ref b47, .ref b48, .ref b49, .ref b50, .int 0]))]) hD hS hA [15] rfl
      refine va_calli (va_runV (As := [.long z_17, .int 1]) (rest := [.int 0]) ⟨hx, hb, hml, hown, hts⟩ (c_fits10 l dC dI g0 (.int 0 : Value) (.ref b1 : Value) (.ref b2 : Value) (.ref b3 : Value) (.ref b4 : Value) (.ref b1 : Value) (.int 0 : Value) (.int 0 : Value) (.int 0 : Value) (.int 0 : Value) (.int 0 : Value) (.int 0 : Value) (.int 0 : Value) (.int 0 : Value) (.int 0 : Value) (.ref (ad 5) : Value) (.ref (ad 7) : Value) (.int 0 : Value) (.ref b19 : Value) (.ref b20 : Value) (.ref b21 : Value) (.ref b22 : Value) (.ref b23 : Value) (.ref b24 : Value) (.ref b25 : Value) (.int 0 : Value) (.int 0 : Value) (.ref b28 : Value) (.ref b29 : Value) (.ref b30 : Value) (.ref b31 : Value) (.ref b32 : Value) (.ref b33 : Value) (.ref b34 : Value) (.ref b35 : Value) (.ref b36 : Value) (.int 0 : Value) (.int 0 : Value) (.long 0 : Value) (.ref b40 : Value) (.ref b41 : Value) (.ref b42 : Value) (.ref b43 : Value) (.ref b44 : Value) (.int 0 : Value) (.ref b46 : Value) (.ref b47 : Value) (.ref b48 : Value) (.ref b49 : Value) (.ref b50 : Value) (.int 0 : Value) z_17 1 H.size) (cwV 2 hts (kG (List.forall_mem_cons.mpr ⟨tw_1474, (List.forall_mem_cons.mpr ⟨tw_1475, (List.forall_mem_cons.mpr ⟨tw_1476, (List.forall_mem_cons.mpr ⟨tw_85, (fun _ h => absurd h List.not_mem_nil)⟩)⟩)⟩)⟩) (by decide +kernel) in_w_c_fits10 gw_c_fits10) rfl rfl rfl (by decide +kernel) ⟨(Nat.le_of_ble_eq_true rfl), (Nat.le_of_ble_eq_true rfl)⟩) (kW_V kT_blind kT_give (va_recv hKc hPc (ci := 10) (q0 := 0) rfl rfl) hPc hKc hDc) rfl rfl hl.1 rfl (lv_room (Nat.le_of_ble_eq_true rfl)) dL_law_1144 ⟨(Nat.le_of_ble_eq_true rfl), (Nat.le_of_ble_eq_true rfl)⟩) hS (fun q _ h => hFc q h) hFc (fun r_22 u t H1 locs ht hvm hw hB hz1 hk1 hS => ?_)
      have hP1 : va_P (dC, dI) vwCl [] H1 := fun k q h => by simp at h
      have hD1 : va_D (va_A [(g0, .inr (10, [.int 0, .ref b1, .ref b2, .ref b3, .ref b4, .ref b1, .int 0, .int 0, .int 0, .int 0, .int 0, .int 0, .int 0, .int 0, .int 0, .int 0, .ref (ad 5), .ref (ad 7), .int 0, .ref b19, .ref b20, .ref b21, .ref b22, .ref b23, .ref b24, .ref b25, .int 0, .int 0, .ref b28, .ref b29, .ref b30, .ref b31, .ref b32, .ref b33, .ref b34, .ref b35, .ref b36, .int 0, .int 0, .long 0, .ref b40, .ref b41, .ref b42, .ref b43, .ref b44, .int 0, .ref b46, .ref b47, .ref b48, .ref b49, .ref b50, .int 0]))] H.size) [] := ⟨fun i j p q h => by simp at h, fun k q h => by simp at h⟩
      try dsimp only at hw
      obtain ⟨hP, hD⟩ := va_join (wr := [(h0, .inr (9, [.ref jT, .ref jR, .ref e2, .ref jL, .ref jU, .ref jF, .ref e6, .ref jN, .ref jA, .ref e9])), (jT, .inr (8, [.ref t0, .int 0])), (t0, .inl (cC, 120, .inl (fun _ => 0))), (jR, .inr (4, [.ref jT, .ref r1, .ref r2, .int 0, .int 0, .int 0, .ref (ad 0), .ref (ad 0)])), (jL, .inr (7, [.ref l0, .int 0])), (l0, .inl (cL, 6, .inr (.inr (.inr (.inr (fun _ => none)))))), (jU, .inr (7, [.ref m0, .int 0])), (m0, .inl (cM, 8, .inr (.inr (.inr (.inr (fun _ => none)))))), (jF, .inr (2, [.ref f0, .ref f1, .ref f2, .ref f3, .ref f4, .int 0, .int 0, .int 0])), (f0, .inl (z0, 10, .inl (fun _ => 0))), (f1, .inl (z1, 10, .inl (fun _ => 0))), (f2, .inl (z2, 10, .inl (fun _ => 0))), (f4, .inl (z4, 4, .inl (fun _ => 0))), (jN, .inr (3, [.ref n0, .ref n1, .ref n2, .ref n3, .ref n4, .int 0])), (jA, .inr (0, [.ref a0, .ref a1, .ref a2, .ref a3, .int 0])), (b1, .inl (y1, 120, .inl (fun _ => 0))), (b19, .inl (y19, 10, .inl (fun _ => 0))), (b20, .inl (y20, 10, .inl (fun _ => 0))), (b21, .inl (y21, 10, .inl (fun _ => 0))), (b22, .inl (y22, 10, .inl (fun _ => 0))), (b23, .inl (y23, 10, .inl (fun _ => 0))), (b24, .inl (y24, 4, .inl (fun _ => 0))), (b25, .inl (y25, 10, .inl (fun _ => 0))), (o0, .inl (cO, 1, .inr (.inl (fun _ => 0))))]) (w1 := []) hP hD [15] [0, 1, 2, 3, 4, 5, 6, 7, 8, 9, 10, 11, 12, 13, 14, 16, 17, 18, 19, 20, 21, 22, 23, 24] rfl rfl (by decide) (by decide) hk1 hFc hP1 hD1
      generalize H1 = H at hP hS ⊢
      have hP : va_P (dC, dI) vwCl [(h0, .inr (9, [.ref jT, .ref jR, .ref e2, .ref jL, .ref jU, .ref jF, .ref e6, .ref jN, .ref jA, .ref e9])), (jT, .inr (8, [.ref t0, .int 0])), (t0, .inl (cC, 120, .inl (fun _ => 0))), (jR, .inr (4, [.ref jT, .ref r1, .ref r2, .int 0, .int 0, .int 0, .ref (ad 0), .ref (ad 0)])), (jL, .inr (7, [.ref l0, .int 0])), (l0, .inl (cL, 6, .inr (.inr (.inr (.inr (fun _ => none)))))), (jU, .inr (7, [.ref m0, .int 0])), (m0, .inl (cM, 8, .inr (.inr (.inr (.inr (fun _ => none)))))), (jF, .inr (2, [.ref f0, .ref f1, .ref f2, .ref f3, .ref f4, .int 0, .int 0, .int 0])), (f0, .inl (z0, 10, .inl (fun _ => 0))), (f1, .inl (z1, 10, .inl (fun _ => 0))), (f2, .inl (z2, 10, .inl (fun _ => 0))), (f4, .inl (z4, 4, .inl (fun _ => 0))), (jN, .inr (3, [.ref n0, .ref n1, .ref n2, .ref n3, .ref n4, .int 0])), (jA, .inr (0, [.ref a0, .ref a1, .ref a2, .ref a3, .int 0])), (b1, .inl (y1, 120, .inl (fun _ => 0))), (b19, .inl (y19, 10, .inl (fun _ => 0))), (b20, .inl (y20, 10, .inl (fun _ => 0))), (b21, .inl (y21, 10, .inl (fun _ => 0))), (b22, .inl (y22, 10, .inl (fun _ => 0))), (b23, .inl (y23, 10, .inl (fun _ => 0))), (b24, .inl (y24, 4, .inl (fun _ => 0))), (b25, .inl (y25, 10, .inl (fun _ => 0))), (o0, .inl (cO, 1, .inr (.inl (fun _ => 0))))] H := hP
      have hD : va_D (fun q : Nat => s.heap.size ≤ q) [(h0, .inr (9, [.ref jT, .ref jR, .ref e2, .ref jL, .ref jU, .ref jF, .ref e6, .ref jN, .ref jA, .ref e9])), (jT, .inr (8, [.ref t0, .int 0])), (t0, .inl (cC, 120, .inl (fun _ => 0))), (jR, .inr (4, [.ref jT, .ref r1, .ref r2, .int 0, .int 0, .int 0, .ref (ad 0), .ref (ad 0)])), (jL, .inr (7, [.ref l0, .int 0])), (l0, .inl (cL, 6, .inr (.inr (.inr (.inr (fun _ => none)))))), (jU, .inr (7, [.ref m0, .int 0])), (m0, .inl (cM, 8, .inr (.inr (.inr (.inr (fun _ => none)))))), (jF, .inr (2, [.ref f0, .ref f1, .ref f2, .ref f3, .ref f4, .int 0, .int 0, .int 0])), (f0, .inl (z0, 10, .inl (fun _ => 0))), (f1, .inl (z1, 10, .inl (fun _ => 0))), (f2, .inl (z2, 10, .inl (fun _ => 0))), (f4, .inl (z4, 4, .inl (fun _ => 0))), (jN, .inr (3, [.ref n0, .ref n1, .ref n2, .ref n3, .ref n4, .int 0])), (jA, .inr (0, [.ref a0, .ref a1, .ref a2, .ref a3, .int 0])), (b1, .inl (y1, 120, .inl (fun _ => 0))), (b19, .inl (y19, 10, .inl (fun _ => 0))), (b20, .inl (y20, 10, .inl (fun _ => 0))), (b21, .inl (y21, 10, .inl (fun _ => 0))), (b22, .inl (y22, 10, .inl (fun _ => 0))), (b23, .inl (y23, 10, .inl (fun _ => 0))), (b24, .inl (y24, 4, .inl (fun _ => 0))), (b25, .inl (y25, 10, .inl (fun _ => 0))), (o0, .inl (cO, 1, .inr (.inl (fun _ => 0))))] := hD
      obtain rfl : r_22 = 0 := hw
      refine lv_icmp_eq (tgt := 1792) hx hb dL_law_1147 (by decide) (fun c_23 => ?_) (fun c_23 => absurd (by decide) c_23)
      exact law_tail C0 hS (Nat.le_of_ble_eq_true rfl) (Nat.le_of_ble_eq_true rfl) (lv_sub hl [0, 1, 2, 3, 4] rfl)
  · refine lv_iconst (v := 1) hx hb dL_law_1099 (by decide) ?_
    refine lv_goto (tgt := 1104) hx hb dL_law_1100 (by decide) ?_
    have hPc := hP.sub (ws' := [(h0, .inr (9, [.ref jT, .ref jR, .ref e2, .ref jL, .ref jU, .ref jF, .ref e6, .ref jN, .ref jA, .ref e9])), (jL, .inr (7, [.ref l0, .int 0])), (jF, .inr (2, [.ref f0, .ref f1, .ref f2, .ref f3, .ref f4, .int 0, .int 0, .int 0]))]) [0, 4, 8] rfl
    have hKc := hK.sub (tys' := []) [] rfl
    refine vp_callSi (va_runV (As := [.long z_7, .int 1]) (rest := []) ⟨hx, hb, hml, hown, hts⟩ (c_fits9 l dC dI h0 jL jF (.ref jT : Value) (.ref jR : Value) (.ref e2 : Value) (.ref jU : Value) (.ref e6 : Value) (.ref jN : Value) (.ref jA : Value) (.ref e9 : Value) (.ref l0 : Value) (.ref f0 : Value) (.ref f1 : Value) (.ref f2 : Value) (.ref f3 : Value) (.ref f4 : Value) (.int 0 : Value) (.int 0 : Value) z_7 1) (cwV 2 hts (kG (List.forall_mem_cons.mpr ⟨tw_815, (List.forall_mem_cons.mpr ⟨tw_816, (List.forall_mem_cons.mpr ⟨tw_817, (List.forall_mem_cons.mpr ⟨tw_75, (fun _ h => absurd h List.not_mem_nil)⟩)⟩)⟩)⟩) (by decide +kernel) in_w_c_fits9 gw_c_fits9) rfl rfl rfl (by decide +kernel) ⟨(Nat.le_of_ble_eq_true rfl), (Nat.le_of_ble_eq_true rfl)⟩) (kR_V kT_blind kT_give (va_recv hKc hPc (ci := 9) (q0 := 0) rfl rfl) hPc hKc) rfl rfl hl.1 rfl (lv_room (Nat.le_of_ble_eq_true rfl)) dL_law_1104 ⟨(Nat.le_of_ble_eq_true rfl), (Nat.le_of_ble_eq_true rfl)⟩).run (fun r_24 hw => ?_)
    obtain rfl : r_24 = 0 := hw
    refine lv_aload_n hx hb dL_law_1107 rfl (lv_at hl 2 rfl) ?_
    refine lv_aload_n hx hb dL_law_1108 rfl (lv_at hl 4 rfl) ?_
    refine lv_iload hx hb dL_law_1109 (lv_at hl 0 rfl) ?_
    refine lv_iconst (v := 1) hx hb dL_law_1111 (by decide) ?_
    refine lv_iadd hx hb dL_law_1112 ?_
    refine lv_topi (fun y_25 ey_25 => ?_)
    obtain rfl : y_25 = 1 := ey_25.trans (by decide)
    refine va_sld hx hb hX hbl hbA hS (by unfold vp_in; decide) dL_law_1113 ?_
    obtain ⟨z_26, ez_26⟩ : ∃ z : Int64, z = Int32.toInt64 (xs (Int32.toNatClampNeg 1)) := ⟨_, rfl⟩
    refine lv_i2l (v := z_26) hx hb dL_law_1114 ez_26.symm ?_
    refine lv_bipush (v := 32) hx hb dL_law_1115 (by decide) ?_
    refine lv_lshl (v := z_26 <<< (Int32.toInt64 32 &&& 63)) hx hb dL_law_1117 rfl ?_
    refine lv_topl (fun z_27 ez_27 => ?_)
    refine lv_aload_n hx hb dL_law_1118 rfl (lv_at hl 4 rfl) ?_
    refine lv_iload hx hb dL_law_1119 (lv_at hl 0 rfl) ?_
    refine lv_iconst (v := 2) hx hb dL_law_1121 (by decide) ?_
    refine lv_iadd hx hb dL_law_1122 ?_
    refine lv_topi (fun y_28 ey_28 => ?_)
    obtain rfl : y_28 = 2 := ey_28.trans (by decide)
    refine va_sld hx hb hX hbl hbA hS (by unfold vp_in; decide) dL_law_1123 ?_
    obtain ⟨z_29, ez_29⟩ : ∃ z : Int64, z = Int32.toInt64 (xs (Int32.toNatClampNeg 2)) := ⟨_, rfl⟩
    refine lv_i2l (v := z_29) hx hb dL_law_1124 ez_29.symm ?_
    refine lv_ldc2 (v := 4294967295) hx hb hown (hts (.constantLong RL 62 (4294967295)) tw_1577) dL_law_1125 ?_
    refine lv_land hx hb dL_law_1128 ?_
    refine lv_topl (fun z_30 ez_30 => ?_)
    refine lv_lor hx hb dL_law_1129 ?_
    refine lv_topl (fun z_31 ez_31 => ?_)
    refine lv_aload_n hx hb dL_law_1130 rfl (lv_at hl 4 rfl) ?_
    refine lv_iload hx hb dL_law_1131 (lv_at hl 0 rfl) ?_
    refine lv_iconst (v := 3) hx hb dL_law_1133 (by decide) ?_
    refine lv_iadd hx hb dL_law_1134 ?_
    refine lv_topi (fun y_32 ey_32 => ?_)
    obtain rfl : y_32 = 3 := ey_32.trans (by decide)
    refine va_sld hx hb hX hbl hbA hS (by unfold vp_in; decide) dL_law_1135 ?_
    refine lv_if_eq (tgt := 1143) hx hb dL_law_1136 (by decide) (fun c_33 => ?_) (fun c_33 => ?_)
    · refine lv_iconst (v := 0) hx hb dL_law_1143 (by decide) ?_
      have hPc := hP.sub (ws' := [(g0, .inr (10, [.int 0, .ref b1, .ref b2, .ref b3, .ref b4, .ref b1, .int 0, .int 0, .int 0, .int 0, .int 0, .int 0, .int 0, .int 0, .int 0, .int 0, .ref (ad 5), .ref (ad 7), .int 0, .ref b19, .ref b20, .ref b21, .ref b22, .ref b23, .ref b24, .ref b25, .int 0, .int 0, .ref b28, .ref b29, .ref b30, .ref b31, .ref b32, .ref b33, .ref b34, .ref b35, .ref b36, .int 0, .int 0, .long 0, .ref b40, .ref b41, .ref b42, .ref b43, .ref b44, .int 0, .ref b46, .ref b47, .ref b48, .ref b49, .ref b50, .int 0]))]) [15] rfl
      have hKc := hK.sub (tys' := []) [] rfl
      have hDc := hD.sub (ws' := [(g0, .inr (10, [.int 0, .ref b1, .ref b2, .ref b3, .ref b4, .ref b1, .int 0, .int 0, .int 0, .int 0, .int 0, .int 0, .int 0, .int 0, .int 0, .int 0, .ref (ad 5), .ref (ad 7), .int 0, .ref b19, .ref b20, .ref b21, .ref b22, .ref b23, .ref b24, .ref b25, .int 0, .int 0, .ref b28, .ref b29, .ref b30, .ref b31, .ref b32, .ref b33, .ref b34, .ref b35, .ref b36, .int 0, .int 0, .long 0, .ref b40, .ref b41, .ref b42, .ref b43, .ref b44, .int 0, .ref b46, .ref b47, .ref b48, .ref b49, .ref b50, .int 0]))]) [15] (by decide) rfl
      have hFc := va_free (wc := [(g0, .inr (10, [.int 0, .ref b1, .ref b2, .ref b3, .ref b4, .ref b1, .int 0, .int 0, .int 0, .int 0, .int 0, .int 0, .int 0, .int 0, .int 0, .int 0, .ref (ad 5), .ref (ad 7), .int 0, .ref b19, .ref b20, .ref b21, .ref b22, .ref b23, .ref b24, .ref b25, .int 0, .int 0, .ref b28, .ref b29, .ref b30, .ref b31, .ref b32, .ref b33, .ref b34, .ref b35, .ref b36, .int 0, .int 0, .long 0, .ref b40, .ref b41, .ref b42, .ref b43, .ref b44, .int 0, .ref b46, .ref b47, .ref b48, .ref b49, .ref b50, .int 0]))]) hD hS hA [15] rfl
      refine va_calli (va_runV (As := [.long z_31, .int 0]) (rest := [.int 0]) ⟨hx, hb, hml, hown, hts⟩ (c_fits10 l dC dI g0 (.int 0 : Value) (.ref b1 : Value) (.ref b2 : Value) (.ref b3 : Value) (.ref b4 : Value) (.ref b1 : Value) (.int 0 : Value) (.int 0 : Value) (.int 0 : Value) (.int 0 : Value) (.int 0 : Value) (.int 0 : Value) (.int 0 : Value) (.int 0 : Value) (.int 0 : Value) (.ref (ad 5) : Value) (.ref (ad 7) : Value) (.int 0 : Value) (.ref b19 : Value) (.ref b20 : Value) (.ref b21 : Value) (.ref b22 : Value) (.ref b23 : Value) (.ref b24 : Value) (.ref b25 : Value) (.int 0 : Value) (.int 0 : Value) (.ref b28 : Value) (.ref b29 : Value) (.ref b30 : Value) (.ref b31 : Value) (.ref b32 : Value) (.ref b33 : Value) (.ref b34 : Value) (.ref b35 : Value) (.ref b36 : Value) (.int 0 : Value) (.int 0 : Value) (.long 0 : Value) (.ref b40 : Value) (.ref b41 : Value) (.ref b42 : Value) (.ref b43 : Value) (.ref b44 : Value) (.int 0 : Value) (.ref b46 : Value) (.ref b47 : Value) (.ref b48 : Value) (.ref b49 : Value) (.ref b50 : Value) (.int 0 : Value) z_31 0 H.size) (cwV 2 hts (kG (List.forall_mem_cons.mpr ⟨tw_1474, (List.forall_mem_cons.mpr ⟨tw_1475, (List.forall_mem_cons.mpr ⟨tw_1476, (List.forall_mem_cons.mpr ⟨tw_85, (fun _ h => absurd h List.not_mem_nil)⟩)⟩)⟩)⟩) (by decide +kernel) in_w_c_fits10 gw_c_fits10) rfl rfl rfl (by decide +kernel) ⟨(Nat.le_of_ble_eq_true rfl), (Nat.le_of_ble_eq_true rfl)⟩) (kW_V kT_blind kT_give (va_recv hKc hPc (ci := 10) (q0 := 0) rfl rfl) hPc hKc hDc) rfl rfl hl.1 rfl (lv_room (Nat.le_of_ble_eq_true rfl)) dL_law_1144 ⟨(Nat.le_of_ble_eq_true rfl), (Nat.le_of_ble_eq_true rfl)⟩) hS (fun q _ h => hFc q h) hFc (fun r_34 u t H1 locs ht hvm hw hB hz1 hk1 hS => ?_)
      have hP1 : va_P (dC, dI) vwCl [] H1 := fun k q h => by simp at h
      have hD1 : va_D (va_A [(g0, .inr (10, [.int 0, .ref b1, .ref b2, .ref b3, .ref b4, .ref b1, .int 0, .int 0, .int 0, .int 0, .int 0, .int 0, .int 0, .int 0, .int 0, .int 0, .ref (ad 5), .ref (ad 7), .int 0, .ref b19, .ref b20, .ref b21, .ref b22, .ref b23, .ref b24, .ref b25, .int 0, .int 0, .ref b28, .ref b29, .ref b30, .ref b31, .ref b32, .ref b33, .ref b34, .ref b35, .ref b36, .int 0, .int 0, .long 0, .ref b40, .ref b41, .ref b42, .ref b43, .ref b44, .int 0, .ref b46, .ref b47, .ref b48, .ref b49, .ref b50, .int 0]))] H.size) [] := ⟨fun i j p q h => by simp at h, fun k q h => by simp at h⟩
      try dsimp only at hw
      obtain ⟨hP, hD⟩ := va_join (wr := [(h0, .inr (9, [.ref jT, .ref jR, .ref e2, .ref jL, .ref jU, .ref jF, .ref e6, .ref jN, .ref jA, .ref e9])), (jT, .inr (8, [.ref t0, .int 0])), (t0, .inl (cC, 120, .inl (fun _ => 0))), (jR, .inr (4, [.ref jT, .ref r1, .ref r2, .int 0, .int 0, .int 0, .ref (ad 0), .ref (ad 0)])), (jL, .inr (7, [.ref l0, .int 0])), (l0, .inl (cL, 6, .inr (.inr (.inr (.inr (fun _ => none)))))), (jU, .inr (7, [.ref m0, .int 0])), (m0, .inl (cM, 8, .inr (.inr (.inr (.inr (fun _ => none)))))), (jF, .inr (2, [.ref f0, .ref f1, .ref f2, .ref f3, .ref f4, .int 0, .int 0, .int 0])), (f0, .inl (z0, 10, .inl (fun _ => 0))), (f1, .inl (z1, 10, .inl (fun _ => 0))), (f2, .inl (z2, 10, .inl (fun _ => 0))), (f4, .inl (z4, 4, .inl (fun _ => 0))), (jN, .inr (3, [.ref n0, .ref n1, .ref n2, .ref n3, .ref n4, .int 0])), (jA, .inr (0, [.ref a0, .ref a1, .ref a2, .ref a3, .int 0])), (b1, .inl (y1, 120, .inl (fun _ => 0))), (b19, .inl (y19, 10, .inl (fun _ => 0))), (b20, .inl (y20, 10, .inl (fun _ => 0))), (b21, .inl (y21, 10, .inl (fun _ => 0))), (b22, .inl (y22, 10, .inl (fun _ => 0))), (b23, .inl (y23, 10, .inl (fun _ => 0))), (b24, .inl (y24, 4, .inl (fun _ => 0))), (b25, .inl (y25, 10, .inl (fun _ => 0))), (o0, .inl (cO, 1, .inr (.inl (fun _ => 0))))]) (w1 := []) hP hD [15] [0, 1, 2, 3, 4, 5, 6, 7, 8, 9, 10, 11, 12, 13, 14, 16, 17, 18, 19, 20, 21, 22, 23, 24] rfl rfl (by decide) (by decide) hk1 hFc hP1 hD1
      generalize H1 = H at hP hS ⊢
      have hP : va_P (dC, dI) vwCl [(h0, .inr (9, [.ref jT, .ref jR, .ref e2, .ref jL, .ref jU, .ref jF, .ref e6, .ref jN, .ref jA, .ref e9])), (jT, .inr (8, [.ref t0, .int 0])), (t0, .inl (cC, 120, .inl (fun _ => 0))), (jR, .inr (4, [.ref jT, .ref r1, .ref r2, .int 0, .int 0, .int 0, .ref (ad 0), .ref (ad 0)])), (jL, .inr (7, [.ref l0, .int 0])), (l0, .inl (cL, 6, .inr (.inr (.inr (.inr (fun _ => none)))))), (jU, .inr (7, [.ref m0, .int 0])), (m0, .inl (cM, 8, .inr (.inr (.inr (.inr (fun _ => none)))))), (jF, .inr (2, [.ref f0, .ref f1, .ref f2, .ref f3, .ref f4, .int 0, .int 0, .int 0])), (f0, .inl (z0, 10, .inl (fun _ => 0))), (f1, .inl (z1, 10, .inl (fun _ => 0))), (f2, .inl (z2, 10, .inl (fun _ => 0))), (f4, .inl (z4, 4, .inl (fun _ => 0))), (jN, .inr (3, [.ref n0, .ref n1, .ref n2, .ref n3, .ref n4, .int 0])), (jA, .inr (0, [.ref a0, .ref a1, .ref a2, .ref a3, .int 0])), (b1, .inl (y1, 120, .inl (fun _ => 0))), (b19, .inl (y19, 10, .inl (fun _ => 0))), (b20, .inl (y20, 10, .inl (fun _ => 0))), (b21, .inl (y21, 10, .inl (fun _ => 0))), (b22, .inl (y22, 10, .inl (fun _ => 0))), (b23, .inl (y23, 10, .inl (fun _ => 0))), (b24, .inl (y24, 4, .inl (fun _ => 0))), (b25, .inl (y25, 10, .inl (fun _ => 0))), (o0, .inl (cO, 1, .inr (.inl (fun _ => 0))))] H := hP
      have hD : va_D (fun q : Nat => s.heap.size ≤ q) [(h0, .inr (9, [.ref jT, .ref jR, .ref e2, .ref jL, .ref jU, .ref jF, .ref e6, .ref jN, .ref jA, .ref e9])), (jT, .inr (8, [.ref t0, .int 0])), (t0, .inl (cC, 120, .inl (fun _ => 0))), (jR, .inr (4, [.ref jT, .ref r1, .ref r2, .int 0, .int 0, .int 0, .ref (ad 0), .ref (ad 0)])), (jL, .inr (7, [.ref l0, .int 0])), (l0, .inl (cL, 6, .inr (.inr (.inr (.inr (fun _ => none)))))), (jU, .inr (7, [.ref m0, .int 0])), (m0, .inl (cM, 8, .inr (.inr (.inr (.inr (fun _ => none)))))), (jF, .inr (2, [.ref f0, .ref f1, .ref f2, .ref f3, .ref f4, .int 0, .int 0, .int 0])), (f0, .inl (z0, 10, .inl (fun _ => 0))), (f1, .inl (z1, 10, .inl (fun _ => 0))), (f2, .inl (z2, 10, .inl (fun _ => 0))), (f4, .inl (z4, 4, .inl (fun _ => 0))), (jN, .inr (3, [.ref n0, .ref n1, .ref n2, .ref n3, .ref n4, .int 0])), (jA, .inr (0, [.ref a0, .ref a1, .ref a2, .ref a3, .int 0])), (b1, .inl (y1, 120, .inl (fun _ => 0))), (b19, .inl (y19, 10, .inl (fun _ => 0))), (b20, .inl (y20, 10, .inl (fun _ => 0))), (b21, .inl (y21, 10, .inl (fun _ => 0))), (b22, .inl (y22, 10, .inl (fun _ => 0))), (b23, .inl (y23, 10, .inl (fun _ => 0))), (b24, .inl (y24, 4, .inl (fun _ => 0))), (b25, .inl (y25, 10, .inl (fun _ => 0))), (o0, .inl (cO, 1, .inr (.inl (fun _ => 0))))] := hD
      obtain rfl : r_34 = 0 := hw
      refine lv_icmp_eq (tgt := 1792) hx hb dL_law_1147 (by decide) (fun c_35 => ?_) (fun c_35 => absurd (by decide) c_35)
      exact law_tail C0 hS (Nat.le_of_ble_eq_true rfl) (Nat.le_of_ble_eq_true rfl) (lv_sub hl [0, 1, 2, 3, 4] rfl)
    · refine lv_iconst (v := 1) hx hb dL_law_1139 (by decide) ?_
      refine lv_goto (tgt := 1144) hx hb dL_law_1140 (by decide) ?_
      have hPc := hP.sub (ws' := [(g0, .inr (10, [.int 0, .ref b1, .ref b2, .ref b3, .ref b4, .ref b1, .int 0, .int 0, .int 0, .int 0, .int 0, .int 0, .int 0, .int 0, .int 0, .int 0, .ref (ad 5), .ref (ad 7), .int 0, .ref b19, .ref b20, .ref b21, .ref b22, .ref b23, .ref b24, .ref b25, .int 0, .int 0, .ref b28, .ref b29, .ref b30, .ref b31, .ref b32, .ref b33, .ref b34, .ref b35, .ref b36, .int 0, .int 0, .long 0, .ref b40, .ref b41, .ref b42, .ref b43, .ref b44, .int 0, .ref b46, .ref b47, .ref b48, .ref b49, .ref b50, .int 0]))]) [15] rfl
      have hKc := hK.sub (tys' := []) [] rfl
      have hDc := hD.sub (ws' := [(g0, .inr (10, [.int 0, .ref b1, .ref b2, .ref b3, .ref b4, .ref b1, .int 0, .int 0, .int 0, .int 0, .int 0, .int 0, .int 0, .int 0, .int 0, .int 0, .ref (ad 5), .ref (ad 7), .int 0, .ref b19, .ref b20, .ref b21, .ref b22, .ref b23, .ref b24, .ref b25, .int 0, .int 0, .ref b28, .ref b29, .ref b30, .ref b31, .ref b32, .ref b33, .ref b34, .ref b35, .ref b36, .int 0, .int 0, .long 0, .ref b40, .ref b41, .ref b42, .ref b43, .ref b44, .int 0, .ref b46, .ref b47, .ref b48, .ref b49, .ref b50, .int 0]))]) [15] (by decide) rfl
      have hFc := va_free (wc := [(g0, .inr (10, [.int 0, .ref b1, .ref b2, .ref b3, .ref b4, .ref b1, .int 0, .int 0, .int 0, .int 0, .int 0, .int 0, .int 0, .int 0, .int 0, .int 0, .ref (ad 5), .ref (ad 7), .int 0, .ref b19, .ref b20, .ref b21, .ref b22, .ref b23, .ref b24, .ref b25, .int 0, .int 0, .ref b28, .ref b29, .ref b30, .ref b31, .ref b32, .ref b33, .ref b34, .ref b35, .ref b36, .int 0, .int 0, .long 0, .ref b40, .ref b41, .ref b42, .ref b43, .ref b44, .int 0, .ref b46, .ref b47, .ref b48, .ref b49, .ref b50, .int 0]))]) hD hS hA [15] rfl
      refine va_calli (va_runV (As := [.long z_31, .int 1]) (rest := [.int 0]) ⟨hx, hb, hml, hown, hts⟩ (c_fits10 l dC dI g0 (.int 0 : Value) (.ref b1 : Value) (.ref b2 : Value) (.ref b3 : Value) (.ref b4 : Value) (.ref b1 : Value) (.int 0 : Value) (.int 0 : Value) (.int 0 : Value) (.int 0 : Value) (.int 0 : Value) (.int 0 : Value) (.int 0 : Value) (.int 0 : Value) (.int 0 : Value) (.ref (ad 5) : Value) (.ref (ad 7) : Value) (.int 0 : Value) (.ref b19 : Value) (.ref b20 : Value) (.ref b21 : Value) (.ref b22 : Value) (.ref b23 : Value) (.ref b24 : Value) (.ref b25 : Value) (.int 0 : Value) (.int 0 : Value) (.ref b28 : Value) (.ref b29 : Value) (.ref b30 : Value) (.ref b31 : Value) (.ref b32 : Value) (.ref b33 : Value) (.ref b34 : Value) (.ref b35 : Value) (.ref b36 : Value) (.int 0 : Value) (.int 0 : Value) (.long 0 : Value) (.ref b40 : Value) (.ref b41 : Value) (.ref b42 : Value) (.ref b43 : Value) (.ref b44 : Value) (.int 0 : Value) (.ref b46 : Value) (.ref b47 : Value) (.ref b48 : Value) (.ref b49 : Value) (.ref b50 : Value) (.int 0 : Value) z_31 1 H.size) (cwV 2 hts (kG (List.forall_mem_cons.mpr ⟨tw_1474, (List.forall_mem_cons.mpr ⟨tw_1475, (List.forall_mem_cons.mpr ⟨tw_1476, (List.forall_mem_cons.mpr ⟨tw_85, (fun _ h => absurd h List.not_mem_nil)⟩)⟩)⟩)⟩) (by decide +kernel) in_w_c_fits10 gw_c_fits10) rfl rfl rfl (by decide +kernel) ⟨(Nat.le_of_ble_eq_true rfl), (Nat.le_of_ble_eq_true rfl)⟩) (kW_V kT_blind kT_give (va_recv hKc hPc (ci := 10) (q0 := 0) rfl rfl) hPc hKc hDc) rfl rfl hl.1 rfl (lv_room (Nat.le_of_ble_eq_true rfl)) dL_law_1144 ⟨(Nat.le_of_ble_eq_true rfl), (Nat.le_of_ble_eq_true rfl)⟩) hS (fun q _ h => hFc q h) hFc (fun r_36 u t H1 locs ht hvm hw hB hz1 hk1 hS => ?_)
      have hP1 : va_P (dC, dI) vwCl [] H1 := fun k q h => by simp at h
      have hD1 : va_D (va_A [(g0, .inr (10, [.int 0, .ref b1, .ref b2, .ref b3, .ref b4, .ref b1, .int 0, .int 0, .int 0, .int 0, .int 0, .int 0, .int 0, .int 0, .int 0, .int 0, .ref (ad 5), .ref (ad 7), .int 0, .ref b19, .ref b20, .ref b21, .ref b22, .ref b23, .ref b24, .ref b25, .int 0, .int 0, .ref b28, .ref b29, .ref b30, .ref b31, .ref b32, .ref b33, .ref b34, .ref b35, .ref b36, .int 0, .int 0, .long 0, .ref b40, .ref b41, .ref b42, .ref b43, .ref b44, .int 0, .ref b46, .ref b47, .ref b48, .ref b49, .ref b50, .int 0]))] H.size) [] := ⟨fun i j p q h => by simp at h, fun k q h => by simp at h⟩
      try dsimp only at hw
      obtain ⟨hP, hD⟩ := va_join (wr := [(h0, .inr (9, [.ref jT, .ref jR, .ref e2, .ref jL, .ref jU, .ref jF, .ref e6, .ref jN, .ref jA, .ref e9])), (jT, .inr (8, [.ref t0, .int 0])), (t0, .inl (cC, 120, .inl (fun _ => 0))), (jR, .inr (4, [.ref jT, .ref r1, .ref r2, .int 0, .int 0, .int 0, .ref (ad 0), .ref (ad 0)])), (jL, .inr (7, [.ref l0, .int 0])), (l0, .inl (cL, 6, .inr (.inr (.inr (.inr (fun _ => none)))))), (jU, .inr (7, [.ref m0, .int 0])), (m0, .inl (cM, 8, .inr (.inr (.inr (.inr (fun _ => none)))))), (jF, .inr (2, [.ref f0, .ref f1, .ref f2, .ref f3, .ref f4, .int 0, .int 0, .int 0])), (f0, .inl (z0, 10, .inl (fun _ => 0))), (f1, .inl (z1, 10, .inl (fun _ => 0))), (f2, .inl (z2, 10, .inl (fun _ => 0))), (f4, .inl (z4, 4, .inl (fun _ => 0))), (jN, .inr (3, [.ref n0, .ref n1, .ref n2, .ref n3, .ref n4, .int 0])), (jA, .inr (0, [.ref a0, .ref a1, .ref a2, .ref a3, .int 0])), (b1, .inl (y1, 120, .inl (fun _ => 0))), (b19, .inl (y19, 10, .inl (fun _ => 0))), (b20, .inl (y20, 10, .inl (fun _ => 0))), (b21, .inl (y21, 10, .inl (fun _ => 0))), (b22, .inl (y22, 10, .inl (fun _ => 0))), (b23, .inl (y23, 10, .inl (fun _ => 0))), (b24, .inl (y24, 4, .inl (fun _ => 0))), (b25, .inl (y25, 10, .inl (fun _ => 0))), (o0, .inl (cO, 1, .inr (.inl (fun _ => 0))))]) (w1 := []) hP hD [15] [0, 1, 2, 3, 4, 5, 6, 7, 8, 9, 10, 11, 12, 13, 14, 16, 17, 18, 19, 20, 21, 22, 23, 24] rfl rfl (by decide) (by decide) hk1 hFc hP1 hD1
      generalize H1 = H at hP hS ⊢
      have hP : va_P (dC, dI) vwCl [(h0, .inr (9, [.ref jT, .ref jR, .ref e2, .ref jL, .ref jU, .ref jF, .ref e6, .ref jN, .ref jA, .ref e9])), (jT, .inr (8, [.ref t0, .int 0])), (t0, .inl (cC, 120, .inl (fun _ => 0))), (jR, .inr (4, [.ref jT, .ref r1, .ref r2, .int 0, .int 0, .int 0, .ref (ad 0), .ref (ad 0)])), (jL, .inr (7, [.ref l0, .int 0])), (l0, .inl (cL, 6, .inr (.inr (.inr (.inr (fun _ => none)))))), (jU, .inr (7, [.ref m0, .int 0])), (m0, .inl (cM, 8, .inr (.inr (.inr (.inr (fun _ => none)))))), (jF, .inr (2, [.ref f0, .ref f1, .ref f2, .ref f3, .ref f4, .int 0, .int 0, .int 0])), (f0, .inl (z0, 10, .inl (fun _ => 0))), (f1, .inl (z1, 10, .inl (fun _ => 0))), (f2, .inl (z2, 10, .inl (fun _ => 0))), (f4, .inl (z4, 4, .inl (fun _ => 0))), (jN, .inr (3, [.ref n0, .ref n1, .ref n2, .ref n3, .ref n4, .int 0])), (jA, .inr (0, [.ref a0, .ref a1, .ref a2, .ref a3, .int 0])), (b1, .inl (y1, 120, .inl (fun _ => 0))), (b19, .inl (y19, 10, .inl (fun _ => 0))), (b20, .inl (y20, 10, .inl (fun _ => 0))), (b21, .inl (y21, 10, .inl (fun _ => 0))), (b22, .inl (y22, 10, .inl (fun _ => 0))), (b23, .inl (y23, 10, .inl (fun _ => 0))), (b24, .inl (y24, 4, .inl (fun _ => 0))), (b25, .inl (y25, 10, .inl (fun _ => 0))), (o0, .inl (cO, 1, .inr (.inl (fun _ => 0))))] H := hP
      have hD : va_D (fun q : Nat => s.heap.size ≤ q) [(h0, .inr (9, [.ref jT, .ref jR, .ref e2, .ref jL, .ref jU, .ref jF, .ref e6, .ref jN, .ref jA, .ref e9])), (jT, .inr (8, [.ref t0, .int 0])), (t0, .inl (cC, 120, .inl (fun _ => 0))), (jR, .inr (4, [.ref jT, .ref r1, .ref r2, .int 0, .int 0, .int 0, .ref (ad 0), .ref (ad 0)])), (jL, .inr (7, [.ref l0, .int 0])), (l0, .inl (cL, 6, .inr (.inr (.inr (.inr (fun _ => none)))))), (jU, .inr (7, [.ref m0, .int 0])), (m0, .inl (cM, 8, .inr (.inr (.inr (.inr (fun _ => none)))))), (jF, .inr (2, [.ref f0, .ref f1, .ref f2, .ref f3, .ref f4, .int 0, .int 0, .int 0])), (f0, .inl (z0, 10, .inl (fun _ => 0))), (f1, .inl (z1, 10, .inl (fun _ => 0))), (f2, .inl (z2, 10, .inl (fun _ => 0))), (f4, .inl (z4, 4, .inl (fun _ => 0))), (jN, .inr (3, [.ref n0, .ref n1, .ref n2, .ref n3, .ref n4, .int 0])), (jA, .inr (0, [.ref a0, .ref a1, .ref a2, .ref a3, .int 0])), (b1, .inl (y1, 120, .inl (fun _ => 0))), (b19, .inl (y19, 10, .inl (fun _ => 0))), (b20, .inl (y20, 10, .inl (fun _ => 0))), (b21, .inl (y21, 10, .inl (fun _ => 0))), (b22, .inl (y22, 10, .inl (fun _ => 0))), (b23, .inl (y23, 10, .inl (fun _ => 0))), (b24, .inl (y24, 4, .inl (fun _ => 0))), (b25, .inl (y25, 10, .inl (fun _ => 0))), (o0, .inl (cO, 1, .inr (.inl (fun _ => 0))))] := hD
      obtain rfl : r_36 = 0 := hw
      refine lv_icmp_eq (tgt := 1792) hx hb dL_law_1147 (by decide) (fun c_37 => ?_) (fun c_37 => absurd (by decide) c_37)
      exact law_tail C0 hS (Nat.le_of_ble_eq_true rfl) (Nat.le_of_ble_eq_true rfl) (lv_sub hl [0, 1, 2, 3, 4] rfl)
