-- ===== end of PART A; then your names; then what follows =====
/-! THE CLAIM OUT OF ONE WALK OF THE LAW'S BODY. Your part is whole_start (and what it stands on); all else here is the same for every law, but numbers. -/
def R_law : String := "NotEndedLaw"
def lw_P (b : Addr) (xs : List Int32) (args : Array Value) (s : State) : Prop := args = #[.ref b] ∧ s.IntsAt b xs ∧ xs.length ≤ 7 ∧ (Jvm.Cond.and given_1 narrow_1).before args s = true
def lw_Q (_ : Array Value) (s : State) (o : Outcome) (t : State) : Prop := o = .returned (some (.int 1)) ∧ Framed s o t [] 600002 7302232
def lw_Z (below : List Frame) (a : Array Value) (s : State) : State → Prop := fun t => ∃ o, t.status = .running ∧ Ended t below o ∧ lw_Q a s o t
/-- the law's own end, with 1 on the stack, nothing written that was there before, its room as the claim has it -/
theorem lw_ret {p : Program} {l : Launch} {e : Env} {s : State} {m : MethodId} {below : List Frame} {meth : Method} {c : Code} {b : Nat} (hx : p.tables.exec = Jvm.exec) (hb : c.code = code) (hr : meth.sig.returnType = ret) (hlocks : meth.locks = false) {pc : Nat} {H : Heap} {ls : Array Slot} (hdg : decode code pc = .ok (.ireturn, 1)) : W p l e room_1 s m #[Value.ref b] below meth c H [] 600002 7302232 (lw_Z below #[Value.ref b] s) (F0 m pc ls [.int 1]) := by
  intro T hT X
  obtain ⟨fs, hret, hrun, hended, hW, hframe⟩ := X.leave (v := some (.int 1)) (hlocks := hlocks) (fun h => by rw [hr] at h; cases h)
  have hmeth' : T.vm.method? m = some meth := X.method'
  refine ⟨T.setFrames fs, ?_, .returned (some (.int 1)), hrun, hended, rfl, ⟨_, rfl⟩, hW, hframe⟩
  jvm_step X.here [X.here.top, hx, hb, hdg, hmeth', hr, ret, narrow_b1]
  (try refine ⟨rfl, ?_⟩); (try refine ⟨rfl, ?_⟩)
  first | (intro acts; rw [hret _ acts rfl rfl rfl]) | rw [hret _ _ rfl rfl rfl]
  exact Steps.refl _
/-- what holds at the law's entry: the machine, the code, the tables' words (any of lw_tbl by 'hts w (by decide +kernel)'), the script of L ints xs at the cell b, what the Statement gives of the start (any of its parts by flat_of_before) -/
def lw_At (p : Program) (s : State) (m : MethodId) (meth : Method) (c : Code) (b L : Nat) (xs : Nat → Int32) : Prop :=
  p.tables.exec = Jvm.exec ∧ c.code = code ∧ meth.sig.returnType = ret ∧ c.maxLocals = 7 ∧ s.vm.findClass R_law = some m.cls ∧ (∀ w ∈ lw_tbl, w.before #[Value.ref b] s = true) ∧ va_X b L xs s s.heap ∧ b < s.heap.size ∧ meth.locks = false ∧ (Jvm.Cond.and given_1 narrow_1).before #[Value.ref b] s = true
/-- where the texts and the bytes of the four label texts lie, as one function -/
def kAd (q0 q1 q2 q3 q4 q5 q6 q7 q8 b1 b2 b5 b6 : Nat) : Nat → Nat := fun i => match i with
  | 0 => q0
  | 1 => q1
  | 2 => q2
  | 3 => q3
  | 4 => q4
  | 5 => q5
  | 6 => q6
  | 7 => q7
  | 8 => q8
  | 11 => b1
  | 12 => b2
  | 15 => b5
  | _ => b6
/-- what the law knows of the launch beside the tables: links of nest mates, the rules' array class, where the texts lie and what they hold, what a throw needs -/
def kLaw (ad : Nat → Nat) (s : State) : Prop := kN19 s ∧ kNew ad s ∧ kF ad 1 2 (ad 11) (ad 12) (fun q : Nat => s.heap.size ≤ q) s ∧ kF ad 5 6 (ad 15) (ad 16) (fun q : Nat => s.heap.size ≤ q) s ∧ kThr (fun q : Nat => s.heap.size ≤ q) s
/-- a text constant, out of what the statement gives of it -/
theorem kText {s : State} {args : Array Value} {own : String} {k n : Nat} {l : List Int32} {A : Nat → Prop} (hn : n < 2 ^ 31) (hex : (Cond.exactly (.string own k) "java/lang/String").before args s = true) (hco : (Cond.eq (.field (.string own k) "java/lang/String" "coder" "B") (.int 0)).before args s = true)
    (har : (Cond.arrayOf (.field (.string own k) "java/lang/String" "value" "[B") .byte).before args s = true) (hle : (Cond.eq (.length (.field (.string own k) "java/lang/String" "value" "[B")) (.int (Int32.ofNat n))).before args s = true)
    (hel : ∀ j : Nat, j < n → (Cond.eq (.elem (.field (.string own k) "java/lang/String" "value" "[B") (.int (Int32.ofNat j))) (.int (kTx l j))).before args s = true) (hA : ∀ a : Nat, a < s.heap.size → ¬ A a) (hJ : kJ A s) :
    ∃ q b : Nat, (Term.string own k).eval args s none [] s = some (.ref q) ∧ kSt q b n (kTx l) A s := by
  obtain ⟨adK, adV, hS, he⟩ := vk_Sof (N := 1) (tm := fun _ => Term.string own k) (len := [n]) (byt := [l]) (A := A) (s := s) (args := args) (fun | 0, _ => hn | i + 1, hi => absurd hi (by omega)) (fun _ _ => hex) (fun _ _ => hco) (fun _ _ => har) (fun | 0, _ => hle | i + 1, hi => absurd hi (by omega)) (fun | 0, _ => hel | i + 1, hi => absurd hi (by omega)) (fun i j hi hj h => absurd (by omega) h) hA
  obtain ⟨h1, h2, h3, h4⟩ := hS.1 0 (by omega)
  exact ⟨adK 0, adV 0, he 0 (by omega), h1, h2, h3, h4, hJ⟩
set_option maxHeartbeats 4000000 in
set_option maxRecDepth 100000 in
theorem law_facts {p : Program} {s : State} {m : MethodId} {meth : Method} {c : Code} {b L : Nat} {xs : Nat → Int32} (C0 : lw_At p s m meth c b L xs) : ∃ ad : Nat → Nat, kLaw ad s := by
  obtain ⟨hx, hb, hr, hml, hown, hts, hX, hbl, hlocks, hgv⟩ := C0
  have hs := flat_of_before _ hgv
  have hA : ∀ a : Nat, a < s.heap.size → ¬ (fun q : Nat => s.heap.size ≤ q) a := fun a h => Nat.not_le.mpr h
  have hJ : kJ (fun q : Nat => s.heap.size ≤ q) s := ⟨va_Zof (hts (.laysStatic "java/lang/String" "COMPACT_STRINGS" "Z") (List.mem_of_getElem? (i := 431) (by decide +kernel))) (hts (.initialized "java/lang/String") (List.mem_of_getElem? (i := 86) (by decide +kernel))) (va_eqt (hs (.eq (.static "java/lang/String" "COMPACT_STRINGS" "Z") (.int 1)) (by decide +kernel))) hA, va_Zqof (hts (.laysStatic "jdk/internal/util/Preconditions" "SIOOBE_FORMATTER" "Ljava/util/function/BiFunction;") (List.mem_of_getElem? (i := 474) (by decide +kernel))) (hts (.initialized "jdk/internal/util/Preconditions") (List.mem_of_getElem? (i := 90) (by decide +kernel))) (hs (.isRef (.static "jdk/internal/util/Preconditions" "SIOOBE_FORMATTER" "Ljava/util/function/BiFunction;")) (by decide +kernel)) hA⟩
  obtain ⟨q0, b0, e0, h0⟩ := kText (s := s) (args := #[Value.ref b]) (own := RX4) (k := 28) (n := 0) (l := []) (A := fun q : Nat => s.heap.size ≤ q) (by decide) (hs _ (by decide +kernel)) (hs _ (by decide +kernel)) (hs _ (by decide +kernel)) (hs _ (by decide +kernel)) (fun j hj => absurd hj (Nat.not_lt_zero j)) hA hJ
  obtain ⟨q1, b1, e1, h1⟩ := kText (s := s) (args := #[Value.ref b]) (own := RX4) (k := 41) (n := 3) (l := [121, 103, 120]) (A := fun q : Nat => s.heap.size ≤ q) (by decide) (hs _ (by decide +kernel)) (hs _ (by decide +kernel)) (hs _ (by decide +kernel)) (hs _ (by decide +kernel)) (fun j hj => by rcases (show j = 0 ∨ j = 1 ∨ j = 2 by omega) with rfl | rfl | rfl <;> exact hs _ (by decide +kernel)) hA hJ
  obtain ⟨q2, b2, e2, h2⟩ := kText (s := s) (args := #[Value.ref b]) (own := RX4) (k := 43) (n := 1) (l := [119]) (A := fun q : Nat => s.heap.size ≤ q) (by decide) (hs _ (by decide +kernel)) (hs _ (by decide +kernel)) (hs _ (by decide +kernel)) (hs _ (by decide +kernel)) (fun j hj => by rcases (show j = 0 by omega) with rfl <;> exact hs _ (by decide +kernel)) hA hJ
  obtain ⟨q3, b3, e3, h3⟩ := kText (s := s) (args := #[Value.ref b]) (own := RX4) (k := 45) (n := 8) (l := [118, 112, 110, 109, 115, 117, 100, 105]) (A := fun q : Nat => s.heap.size ≤ q) (by decide) (hs _ (by decide +kernel)) (hs _ (by decide +kernel)) (hs _ (by decide +kernel)) (hs _ (by decide +kernel)) (fun j hj => by rcases (show j = 0 ∨ j = 1 ∨ j = 2 ∨ j = 3 ∨ j = 4 ∨ j = 5 ∨ j = 6 ∨ j = 7 by omega) with rfl | rfl | rfl | rfl | rfl | rfl | rfl | rfl <;> exact hs _ (by decide +kernel)) hA hJ
  obtain ⟨q4, b4, e4, h4⟩ := kText (s := s) (args := #[Value.ref b]) (own := RX4) (k := 47) (n := 5) (l := [97, 98, 99, 100, 101]) (A := fun q : Nat => s.heap.size ≤ q) (by decide) (hs _ (by decide +kernel)) (hs _ (by decide +kernel)) (hs _ (by decide +kernel)) (hs _ (by decide +kernel)) (fun j hj => by rcases (show j = 0 ∨ j = 1 ∨ j = 2 ∨ j = 3 ∨ j = 4 by omega) with rfl | rfl | rfl | rfl | rfl <;> exact hs _ (by decide +kernel)) hA hJ
  obtain ⟨q5, b5, e5, h5⟩ := kText (s := s) (args := #[Value.ref b]) (own := RX10) (k := 26) (n := 3) (l := [121, 103, 120]) (A := fun q : Nat => s.heap.size ≤ q) (by decide) (hs _ (by decide +kernel)) (hs _ (by decide +kernel)) (hs _ (by decide +kernel)) (hs _ (by decide +kernel)) (fun j hj => by rcases (show j = 0 ∨ j = 1 ∨ j = 2 by omega) with rfl | rfl | rfl <;> exact hs _ (by decide +kernel)) hA hJ
  obtain ⟨q6, b6, e6, h6⟩ := kText (s := s) (args := #[Value.ref b]) (own := RX10) (k := 229) (n := 1) (l := [119]) (A := fun q : Nat => s.heap.size ≤ q) (by decide) (hs _ (by decide +kernel)) (hs _ (by decide +kernel)) (hs _ (by decide +kernel)) (hs _ (by decide +kernel)) (fun j hj => by rcases (show j = 0 by omega) with rfl <;> exact hs _ (by decide +kernel)) hA hJ
  obtain ⟨q7, b7, e7, h7⟩ := kText (s := s) (args := #[Value.ref b]) (own := RX10) (k := 32) (n := 8) (l := [118, 112, 110, 109, 115, 117, 100, 105]) (A := fun q : Nat => s.heap.size ≤ q) (by decide) (hs _ (by decide +kernel)) (hs _ (by decide +kernel)) (hs _ (by decide +kernel)) (hs _ (by decide +kernel)) (fun j hj => by rcases (show j = 0 ∨ j = 1 ∨ j = 2 ∨ j = 3 ∨ j = 4 ∨ j = 5 ∨ j = 6 ∨ j = 7 by omega) with rfl | rfl | rfl | rfl | rfl | rfl | rfl | rfl <;> exact hs _ (by decide +kernel)) hA hJ
  obtain ⟨q8, b8, e8, h8⟩ := kText (s := s) (args := #[Value.ref b]) (own := RX10) (k := 231) (n := 5) (l := [97, 98, 99, 100, 101]) (A := fun q : Nat => s.heap.size ≤ q) (by decide) (hs _ (by decide +kernel)) (hs _ (by decide +kernel)) (hs _ (by decide +kernel)) (hs _ (by decide +kernel)) (fun j hj => by rcases (show j = 0 ∨ j = 1 ∨ j = 2 ∨ j = 3 ∨ j = 4 by omega) with rfl | rfl | rfl | rfl | rfl <;> exact hs _ (by decide +kernel)) hA hJ
  have hLit : kLit (kAd q0 q1 q2 q3 q4 q5 q6 q7 q8 b1 b2 b5 b6) s := ⟨vk_R.of (hts (.stringRef RX4 28 "") (List.mem_of_getElem? (i := 128) (by decide +kernel))) e0, vk_R.of (hts (.stringRef RX4 41 "ygx") (List.mem_of_getElem? (i := 402) (by decide +kernel))) e1, vk_R.of (hts (.stringRef RX4 43 "w") (List.mem_of_getElem? (i := 403) (by decide +kernel))) e2, vk_R.of (hts (.stringRef RX4 45 "vpnmsudi") (List.mem_of_getElem? (i := 404) (by decide +kernel))) e3, vk_R.of (hts (.stringRef RX4 47 "abcde") (List.mem_of_getElem? (i := 405) (by decide +kernel))) e4, vk_R.of (hts (.stringRef RX10 26 "ygx") (List.mem_of_getElem? (i := 1081) (by decide +kernel))) e5, vk_R.of (hts (.stringRef RX10 229 "w") (List.mem_of_getElem? (i := 1271) (by decide +kernel))) e6, vk_R.of (hts (.stringRef RX10 32 "vpnmsudi") (List.mem_of_getElem? (i := 1082) (by decide +kernel))) e7, vk_R.of (hts (.stringRef RX10 231 "abcde") (List.mem_of_getElem? (i := 1272) (by decide +kernel))) e8⟩
  refine ⟨kAd q0 q1 q2 q3 q4 q5 q6 q7 q8 b1 b2 b5 b6, ?_, ⟨hLit, ?_, ?_, ?_, ?_, ?_, ?_⟩, ⟨hLit, h1, h2⟩, ⟨hLit, h5, h6⟩, ?_, ?_, ?_, ?_, ?_, ?_⟩
  · exact va_Nw.of rfl (hts (.methodLinkNest RX8 19 yX9_within RX9) (List.mem_of_getElem? (i := 388) (by decide +kernel)))
  · exact va_AO.of (hts (.arrayOver (.object RX6)) (List.mem_of_getElem? (i := 176) (by decide +kernel)))
  · exact va_Nw.of rfl (hts (.methodLinkNest RX9 11 yX8_init RX9) (List.mem_of_getElem? (i := 110) (by decide +kernel)))
  · exact va_Nw.of rfl (hts (.methodLinkNest RX9 27 yX5_init RX9) (List.mem_of_getElem? (i := 158) (by decide +kernel)))
  · exact va_Nw.of rfl (hts (.methodLinkNest RX9 46 yX2_init RX9) (List.mem_of_getElem? (i := 186) (by decide +kernel)))
  · exact va_Nw.of rfl (hts (.methodLinkNest RX9 62 yX3_init RX9) (List.mem_of_getElem? (i := 286) (by decide +kernel)))
  · exact va_Nw.of rfl (hts (.methodLinkNest RX9 69 yX0_init RX9) (List.mem_of_getElem? (i := 311) (by decide +kernel)))
  · exact va_Nw.of rfl (hts (.declares (Bundle.init0 "java/lang/RuntimeException")) (List.mem_of_getElem? (i := 1013) (by decide +kernel)))
  · exact va_Nw.of rfl (hts (.declares (Bundle.init0 "java/lang/Exception")) (List.mem_of_getElem? (i := 1015) (by decide +kernel)))
  · exact va_Nw.of rfl (hts (.declares (Bundle.init0 Bundle.tN)) (List.mem_of_getElem? (i := 1017) (by decide +kernel)))
  · exact va_Nw.of rfl (hts (.castable kNS kNS) (List.mem_of_getElem? (i := 1012) (by decide +kernel)))
  · exact vx_Zqof (hts (.laysStatic Bundle.tN "UNASSIGNED_STACK" Bundle.steD) (List.mem_of_getElem? (i := 1037) (by decide +kernel))) (hts (.initialized Bundle.tN) (List.mem_of_getElem? (i := 94) (by decide +kernel))) (hs (.isRef (.static Bundle.tN "UNASSIGNED_STACK" Bundle.steD)) (by decide +kernel)) hA
  · exact vx_Zqof (hts (.laysStatic Bundle.tN "SUPPRESSED_SENTINEL" Bundle.listD) (List.mem_of_getElem? (i := 1039) (by decide +kernel))) (hts (.initialized Bundle.tN) (List.mem_of_getElem? (i := 94) (by decide +kernel))) (hs (.isRef (.static Bundle.tN "SUPPRESSED_SENTINEL" Bundle.listD)) (by decide +kernel)) hA
