-- ===== end of PART A; then your names; then what follows =====
/-! THE CLAIM OUT OF ONE WALK OF THE LAW'S BODY. Your part is whole_start (and what it stands on); all else here is the same for every law, but numbers. -/
def R_law : String := "NotEndedLaw"
def lw_P (b : Addr) (xs : List Int32) (args : Array Value) (s : State) : Prop := args = #[.ref b] ∧ s.IntsAt b xs ∧ xs.length ≤ 3584 ∧ (Jvm.Cond.and given_1 narrow_1).before args s = true
def lw_Q (_ : Array Value) (s : State) (o : Outcome) (t : State) : Prop := o = .returned (some (.int 1)) ∧ Framed s o t [] 601024 7293034
def lw_Z (below : List Frame) (a : Array Value) (s : State) : State → Prop := fun t => ∃ o, t.status = .running ∧ Ended t below o ∧ lw_Q a s o t
/-- the law's own end, with 1 on the stack, nothing written that was there before, its room as the claim has it -/
theorem lw_ret {p : Program} {l : Launch} {e : Env} {s : State} {m : MethodId} {below : List Frame} {meth : Method} {c : Code} {b : Nat} (hx : p.tables.exec = Jvm.exec) (hb : c.code = code) (hr : meth.sig.returnType = ret) (hlocks : meth.locks = false) {pc : Nat} {H : Heap} {ls : Array Slot} (hdg : decode code pc = .ok (.ireturn, 1)) : W p l e room_1 s m #[Value.ref b] below meth c H [] 601024 7293034 (lw_Z below #[Value.ref b] s) (F0 m pc ls [.int 1]) := by
  intro T hT X
  obtain ⟨fs, hret, hrun, hended, hW, hframe⟩ := X.leave (v := some (.int 1)) (hlocks := hlocks) (fun h => by rw [hr] at h; cases h)
  have hmeth' : T.vm.method? m = some meth := X.method'
  refine ⟨T.setFrames fs, ?_, .returned (some (.int 1)), hrun, hended, rfl, ⟨_, rfl⟩, hW, hframe⟩
  jvm_step X.here [X.here.top, hx, hb, hdg, hmeth', hr, ret, narrow_b1]
  (try refine ⟨rfl, ?_⟩); (try refine ⟨rfl, ?_⟩)
  first | (intro acts; rw [hret _ acts rfl rfl rfl]) | rw [hret _ _ rfl rfl rfl]
  exact Steps.refl _
/-- what holds at the law's entry: the machine, the code, the tables' words (any of lw_tbl by 'hts w (by decide +kernel)'), the script of L ints xs at the cell b, what the Statement gives of the start (any of its parts by flat_of_before) -/
def lw_At (p : Program) (s : State) (m : MethodId) (meth : Method) (c : Code) (b L : Nat) (xs : Nat → Int32) : Prop :=
  p.tables.exec = Jvm.exec ∧ c.code = code ∧ meth.sig.returnType = ret ∧ c.maxLocals = 7 ∧ s.vm.findClass R_law = some m.cls ∧ (∀ w ∈ lw_tbl, w.before #[Value.ref b] s = true) ∧ va_X b L xs s s.heap ∧ b < s.heap.size ∧ meth.locks = false ∧ (Jvm.Cond.and given_1 narrow_1).before #[Value.ref b] s = true
theorem kHzA : kIx (kTx [121, 103, 120]) 3 (nI 0) = 3 := by decide +kernel
theorem kHzB : kIx (kTx [118, 112, 110, 109, 115, 117, 100, 105]) 8 (nI 0) = 8 := by decide +kernel
theorem kHzE : kIx (kTx [119]) 1 (nI 0) = 1 := by decide +kernel
theorem kHzG : kIx (kTx [97, 98, 99, 100, 101]) 5 (nI 0) = 5 := by decide +kernel
theorem kTxGF : ∀ k : Fin 5, kTx [97, 98, 99, 100, 101] k.val = nI (97 + k.val) := by decide +kernel
theorem kTxG : ∀ k : Nat, k < 5 → kTx [97, 98, 99, 100, 101] k = nI (97 + k) := fun k hk => kTxGF ⟨k, hk⟩
theorem kHlB : ∀ c : Fin 256, kIx (kTx [118, 112, 110, 109, 115, 117, 100, 105]) 8 (nI c.val) < 8 → ¬ c.val = 91 ∧ ¬ (48 ≤ c.val ∧ c.val ≤ 57) := by decide +kernel
theorem kHlG : ∀ c : Fin 256, kIx (kTx [97, 98, 99, 100, 101]) 5 (nI c.val) < 5 → ¬ c.val = 91 ∧ ¬ (48 ≤ c.val ∧ c.val ≤ 57) := by decide +kernel
theorem kEnK_le (n : Int32) {k : Nat} (hk : k < 2 ^ 31) : kEnK n k ≤ k := by
  unfold kEnK
  split
  · exact Nat.le_refl k
  · next h =>
    split
    · exact Nat.le_refl k
    · next h2 =>
      obtain ⟨j, hj, e⟩ := nI_of h
      subst e
      rw [nI_clamp hj]
      exact knlt hk hj h2
theorem kTcT_le (c k : Nat) : kTcT c k ≤ k := by unfold kTcT; split <;> omega
theorem kFed_1 {a b c d e : Int32} {t u : Nat → Nat} {k m : Nat} (h : kFed a b c d e t k = (u, m)) (h1 : ∀ j : Nat, j < k → 1 ≤ t j) : ∀ j : Nat, j < m → 1 ≤ u j := by
  have z := kFed_nz (a := a) (b := b) (c := c) (d := d) (e := e) h1
  rw [h] at z
  exact z
/-- where the texts lie, as one function -/
def kAd9 (q0 q1 q2 q3 q4 q5 q6 q7 q8 : Nat) : Nat → Nat := fun i => match i with
  | 0 => q0
  | 1 => q1
  | 2 => q2
  | 3 => q3
  | 4 => q4
  | 5 => q5
  | 6 => q6
  | 7 => q7
  | _ => q8
/-- what the law knows of the launch beside the tables -/
def kLaw (ad bt : Nat → Nat) (s : State) : Prop := kNew ad s ∧ kTxt ad (bt 1) 3 (kTx [121, 103, 120]) (bt 3) 8 (kTx [118, 112, 110, 109, 115, 117, 100, 105]) (bt 2) 1 (kTx [119]) (bt 4) 5 (kTx [97, 98, 99, 100, 101]) (fun q : Nat => s.heap.size ≤ q) s ∧ kMx ad (bt 5) 3 (kTx [121, 103, 120]) (bt 7) 8 (kTx [118, 112, 110, 109, 115, 117, 100, 105]) (bt 6) 1 (kTx [119]) (bt 8) 5 (kTx [97, 98, 99, 100, 101]) (fun q : Nat => s.heap.size ≤ q) s ∧ kThr (fun q : Nat => s.heap.size ≤ q) s
theorem kTx_b {l : List Int32} (h : ∀ j : Fin 8, ∃ v : Fin 128, kTx l j.val = nI v.val) (hl : l.length ≤ 8 := by decide) : ∀ k : Nat, ∃ v : Nat, v < 128 ∧ kTx l k = nI v := fun k => by
  by_cases hk : k < 8
  · obtain ⟨v, e⟩ := h ⟨k, hk⟩
    exact ⟨v.val, v.isLt, e⟩
  · refine ⟨0, by omega, ?_⟩
    unfold kTx
    rw [List.getD_eq_getElem?_getD, List.getElem?_eq_none (by omega)]
    rfl
/-- the texts on a shelf, at the law: each rule's cells lie in the heap, and none of them is one of the named cells -/
def kShL (dC : Nat → ClassId) (dI : Nat → Nat → Nat) (kl : Nat) (gL : Nat → Option Nat) (yL : Nat → List kTr) (M9 : Nat) (WA : List Nat) (s : State) (H : Heap) : Prop := ∀ j : Nat, j < kl → ∃ (ru sA cl : Nat) (cS cc : ClassId) (nS nC : Nat) (gS gC : Nat → Int32), gL j = some ru ∧ kRu (yL j) M9 nS nC gS gC ∧ nS ≤ 200 ∧ nC ≤ 200 ∧ va_K (dC, dI) vwCl [(cS, .int), (cc, .int)] s ∧ va_P (dC, dI) vwCl [(ru, .inr (6, [.ref sA, .ref cl])), (sA, .inl (cS, nS, .inl gS)), (cl, .inl (cc, nC, .inl gC))] H ∧ ¬ ru ∈ WA ∧ ¬ sA ∈ WA ∧ ¬ cl ∈ WA
theorem kWA {WA : List Nat} {Wc : va_W} (isC : List Nat) (hC : isC.map (fun i => WA[i]?) = Wc.map (fun z => some z.1)) {k : Nat} {q : Nat} {e : va_E} (h : Wc[k]? = some (q, e)) : q ∈ WA := by
  have h1 : (Wc.map (fun z => some z.1))[k]? = some (some q) := by rw [List.getElem?_map, h]; rfl
  rw [← hC, List.getElem?_map] at h1
  cases hj : isC[k]? with
  | none => rw [hj] at h1; cases h1
  | some j => rw [hj] at h1; exact List.mem_of_getElem? (Option.some.inj h1)
theorem kShL_not {WA : List Nat} {Wc : va_W} (isC : List Nat) (hC : isC.map (fun i => WA[i]?) = Wc.map (fun z => some z.1)) {n q : Nat} (hq : ¬ q ∈ WA) (hl : q < n) : ¬ va_A Wc n q := fun z => by
  rcases z with ⟨k, e, h⟩ | h
  · exact hq (kWA isC hC h)
  · omega
theorem kRZ3 {ru sA cl : Nat} {cS cc : ClassId} {nS nC : Nat} {gS gC : Nat → Int32} {P : Nat → Prop} (h1 : P ru) (h2 : P sA) (h3 : P cl) : ∀ (k : Nat) (q : Nat × va_E), ([(ru, .inr (6, [.ref sA, .ref cl])), (sA, .inl (cS, nS, .inl gS)), (cl, .inl (cc, nC, .inl gC))] : va_W)[k]? = some q → P q.1 := fun k q h => by
  match k, h with
  | 0, h => cases h; exact h1
  | 1, h => cases h; exact h2
  | 2, h => cases h; exact h3
  | k + 3, h => simp at h
theorem kShL_use {dC : Nat → ClassId} {dI : Nat → Nat → Nat} {kl : Nat} {gL : Nat → Option Nat} {yL : Nat → List kTr} {M9 : Nat} {WA : List Nat} {s : State} {H : Heap} (h : kShL dC dI kl gL yL M9 WA s H) {Wc : va_W} (isC : List Nat) (hC : isC.map (fun i => WA[i]?) = Wc.map (fun z => some z.1)) : ∀ U : State, U.heap = H → s.WarmedH U.vm → kSh dC dI kl gL yL M9 (va_A Wc H.size) U := fun U hU hW j hj => by
  obtain ⟨ru, sA, cl, cS, cc, nS, nC, gS, gC, e1, hy, h1, h2, h3, h4, h5, h6, h7⟩ := h j hj
  exact ⟨ru, sA, cl, cS, cc, nS, nC, gS, gC, e1, hy, h1, h2, va_K.moved hW.alike h3, by rw [hU]; exact h4, kRZ3 (P := fun z => ¬ va_A Wc H.size z) (kShL_not isC hC h5 (h4 0 _ rfl).lt) (kShL_not isC hC h6 (h4 1 _ rfl).lt) (kShL_not isC hC h7 (h4 2 _ rfl).lt)⟩
theorem kShL_keep {dC : Nat → ClassId} {dI : Nat → Nat → Nat} {kl : Nat} {gL : Nat → Option Nat} {yL : Nat → List kTr} {M9 : Nat} {WA : List Nat} {s : State} {H H1 : Heap} (h : kShL dC dI kl gL yL M9 WA s H) {Wc : va_W} (isC : List Nat) (hC : isC.map (fun i => WA[i]?) = Wc.map (fun z => some z.1)) (hk : ∀ q : Nat, q < H.size → ¬ va_A Wc H.size q → H1[q]? = H[q]?) : kShL dC dI kl gL yL M9 WA s H1 := fun j hj => by
  obtain ⟨ru, sA, cl, cS, cc, nS, nC, gS, gC, e1, hy, h1, h2, h3, h4, h5, h6, h7⟩ := h j hj
  exact ⟨ru, sA, cl, cS, cc, nS, nC, gS, gC, e1, hy, h1, h2, h3, h4.kept (fun k q hq => hk q.1 (h4 k q hq).lt (kRZ3 (P := fun z => ¬ va_A Wc H.size z) (kShL_not isC hC h5 (h4 0 _ rfl).lt) (kShL_not isC hC h6 (h4 1 _ rfl).lt) (kShL_not isC hC h7 (h4 2 _ rfl).lt) k q hq)), h5, h6, h7⟩
/-- a shelf after a text -/
theorem kShL_new {dC : Nat → ClassId} {dI : Nat → Nat → Nat} {kl kl1 : Nat} {gL gL1 : Nat → Option Nat} {yL : Nat → List kTr} {Y9 : List kTr} {M9 : Nat} {WA : List Nat} {s t : State} {H H1 : Heap} (h : kShL dC dI kl gL yL M9 WA s H1) (hlt : ∀ a ∈ WA, a < H.size) (ht : t.heap = H1) (hvm : s.vm.Alike t.vm) (hN : kShN dC dI kl gL kl1 gL1 Y9 M9 H.size t) : kShL dC dI kl1 gL1 (kUpT yL kl Y9) M9 WA s H1 := by
  rcases hN with ⟨e1, e2⟩ | ⟨e1, ru, sA, cl, cS, cc, nS, nC, gS, gC, e2, hy, h1, h2, h3, h4, h5, h6, h7⟩
  · rw [e1, e2]; intro j hj; rw [kUpT_n (by omega)]; exact h j hj
  · intro j hj
    by_cases z : j = kl
    · refine ⟨ru, sA, cl, cS, cc, nS, nC, gS, gC, by rw [e2, z, va_up_self], by rw [z, kUpT_s]; exact hy, h1, h2, va_K.moved hvm.symm h3, by rw [← ht]; exact h4, fun y => ?_, fun y => ?_, fun y => ?_⟩
      · have := hlt _ y; omega
      · have := hlt _ y; omega
      · have := hlt _ y; omega
    · rw [e2, va_up_ne gL _ z, kUpT_n z]
      exact h j (by omega)
theorem kPub_law {dC : Nat → ClassId} {dI : Nat → Nat → Nat} {kl ku : Nat} {gL gU : Nat → Option Nat} {yL yU : Nat → List kTr} {WA : List Nat} {s : State} {H : Heap} (h1 : kShL dC dI kl gL yL 8 WA s H) (h2 : kShL dC dI ku gU yU 5 WA s H) (h3 : kNL s) {Wc : va_W} (isC : List Nat) (hC : isC.map (fun i => WA[i]?) = Wc.map (fun z => some z.1)) : ∀ U : State, U.heap = H → s.WarmedH U.vm → kPub dC dI kl gL yL ku gU yU (va_A Wc H.size) U := fun U hU hW => ⟨⟨kShL_use h1 isC hC U hU hW, kShL_use h2 isC hC U hU hW⟩, kNL_give h3 U hU hW⟩
theorem kPubT_law {dC : Nat → ClassId} {dI : Nat → Nat → Nat} {kl ku : Nat} {gL gU : Nat → Option Nat} {yL yU : Nat → List kTr} {WA : List Nat} {s : State} {H : Heap} {locs : List Loc} (h1 : kShL dC dI kl gL yL 8 WA s H) (h2 : kShL dC dI ku gU yU 5 WA s H) (h3 : kNL s) (h4 : kThr (fun q : Nat => s.heap.size ≤ q) s) {Wc : va_W} (isC : List Nat) (hC : isC.map (fun i => WA[i]?) = Wc.map (fun z => some z.1)) (hS : va_S (fun q : Nat => s.heap.size ≤ q) s.heap H locs) (hF : ∀ q, va_A Wc H.size q → (fun q : Nat => s.heap.size ≤ q) q) : ∀ U : State, U.heap = H → s.WarmedH U.vm → kPubT dC dI kl gL yL ku gU yU (va_A Wc H.size) U := fun U hU hW => ⟨kPub_law h1 h2 h3 isC hC U hU hW, kThr_narrow (kThr_give h4 hS U hU hW) hF⟩
theorem kLtAll {D : va_G} {cl : List vw_C} {ws : va_W} {H : Heap} (hP : va_P D cl ws H) {WA : List Nat} (is : List Nat) (h : WA.map some = is.map (fun i => (ws[i]?).map (fun z => z.1))) : ∀ a ∈ WA, a < H.size := fun a ha => by
  have h1 : some a ∈ WA.map some := List.mem_map.mpr ⟨a, ha, rfl⟩
  rw [h] at h1
  obtain ⟨i, -, e⟩ := List.mem_map.mp h1
  cases hz : ws[i]? with
  | none => rw [hz] at e; cases e
  | some q =>
    rw [hz] at e
    have e2 : q.1 = a := Option.some.inj e
    rw [← e2]; exact (hP i q hz).lt
theorem kNpM {ps ps1 kn : Nat} {f : Nat → Int32} (h : ps ≤ ps1) (hN : ∀ k : Nat, k < kn → ∃ v : Nat, v < ps ∧ f k = nI v) : ∀ k : Nat, k < kn → ∃ v : Nat, v < ps1 ∧ f k = nI v := fun k hk => by
  obtain ⟨v, h1, h2⟩ := hN k hk
  exact ⟨v, by omega, h2⟩
theorem kSaM {ps ku ku1 : Nat} {f : Nat → Int32} (h : ku ≤ ku1) (hN : ∀ q : Nat, q < ps → ¬ f q = -1 → ∃ t : Nat, t < ku ∧ f q = nI t) : ∀ q : Nat, q < ps → ¬ f q = -1 → ∃ t : Nat, t < ku1 ∧ f q = nI t := fun k hk hn => by
  obtain ⟨v, h1, h2⟩ := hN k hk hn
  exact ⟨v, by omega, h2⟩
theorem kWordN_le {p : Int32} {kw : Nat} (h : kw ≤ 4) : kWordN p kw ≤ 4 := by
  unfold kWordN
  split
  · exact h
  · split <;> omega
theorem kNoteN_le {p h k v o : Int32} {ks kn : Nat} (H : kn ≤ 20) : kNoteN p h k v o ks kn ≤ 20 := by
  unfold kNoteN
  split
  · exact H
  · split
    · exact H
    · split
      · exact H
      · split <;> omega
theorem kSe_at {p : Int32} {ks sv : Nat} {f : Nat → Int32} (H : ∀ j : Nat, j < ks → (f j = 0 ↔ kIsB (nI sv) (nI j) = 0)) (hks : ks ≤ 10 := by omega) (h : ¬ kPn p ks = 0) : (kIsB (nI sv) p = 0 ↔ f (Int32.toNatClampNeg p) = 0) := by
  unfold kPn at h
  by_cases h0 : p < 0
  · rw [if_pos h0] at h; exact absurd rfl h
  · obtain ⟨j, hj, e⟩ := nI_of h0
    subst e
    rw [if_neg h0] at h
    by_cases h1 : nI j < nI ks
    · have h2 := klt (a := j) (b := ks) (by omega) (by omega) h1
      rw [nI_clamp (n := j) (by omega)]
      exact (H j h2).symm
    · rw [if_neg h1] at h; exact absurd rfl h
theorem kHead7 {i L : Nat} (hi : i ≤ 3591) (hL : L ≤ 3584) {y : Int32} (e : y = Int32.ofNat L - 7) (c : ¬ y < nI i) : i + 7 ≤ L := Classical.byContradiction (fun z => c (by
  rw [e, Int32.lt_iff_toInt_lt, nI_toInt (show i < 2 ^ 31 by omega)]
  have h1 := pk_sub_toInt (a := L) (b := 7) (by omega) (by omega)
  have h2 : (Int32.ofNat L - 7).toInt = (L : Int) - (7 : Nat) := h1
  rw [h2]
  omega))
/-- a text constant, out of what the statement gives of it -/
theorem kText {s : State} {args : Array Value} {own : String} {k n : Nat} {l : List Int32} {A : Nat → Prop} (hn : n < 2 ^ 31) (hex : (Cond.exactly (.string own k) "java/lang/String").before args s = true) (hco : (Cond.eq (.field (.string own k) "java/lang/String" "coder" "B") (.int 0)).before args s = true)
    (har : (Cond.arrayOf (.field (.string own k) "java/lang/String" "value" "[B") .byte).before args s = true) (hle : (Cond.eq (.length (.field (.string own k) "java/lang/String" "value" "[B")) (.int (Int32.ofNat n))).before args s = true)
    (hel : ∀ j : Nat, j < n → (Cond.eq (.elem (.field (.string own k) "java/lang/String" "value" "[B") (.int (Int32.ofNat j))) (.int (kTx l j))).before args s = true) (hA : ∀ a : Nat, a < s.heap.size → ¬ A a) (hJ : kJ A s) :
    ∃ q b : Nat, (Term.string own k).eval args s none [] s = some (.ref q) ∧ kSt q b n (kTx l) A s := by
  obtain ⟨adK, adV, hS, he⟩ := vk_Sof (N := 1) (tm := fun _ => Term.string own k) (len := [n]) (byt := [l]) (A := A) (s := s) (args := args) (fun | 0, _ => hn | i + 1, hi => absurd hi (by omega)) (fun _ _ => hex) (fun _ _ => hco) (fun _ _ => har) (fun | 0, _ => hle | i + 1, hi => absurd hi (by omega)) (fun | 0, _ => hel | i + 1, hi => absurd hi (by omega)) (fun i j hi hj h => absurd (by omega) h) hA
  obtain ⟨h1, h2, h3, h4⟩ := hS.1 0 (by omega)
  exact ⟨adK 0, adV 0, he 0 (by omega), h1, h2, h3, h4, hJ⟩
set_option maxHeartbeats 4000000 in
set_option maxRecDepth 100000 in
theorem law_facts {p : Program} {s : State} {m : MethodId} {meth : Method} {c : Code} {b L : Nat} {xs : Nat → Int32} (C0 : lw_At p s m meth c b L xs) : ∃ ad bt : Nat → Nat, kLaw ad bt s := by
  obtain ⟨hx, hb, hr, hml, hown, hts, hX, hbl, hlocks, hgv⟩ := C0
  have hs := flat_of_before _ hgv
  have hA : ∀ a : Nat, a < s.heap.size → ¬ (fun q : Nat => s.heap.size ≤ q) a := fun a h => Nat.not_le.mpr h
  have hJ : kJ (fun q : Nat => s.heap.size ≤ q) s := ⟨va_Zof (hts (.laysStatic "java/lang/String" "COMPACT_STRINGS" "Z") (List.mem_of_getElem? (i := 431) (by decide +kernel))) (hts (.initialized "java/lang/String") (List.mem_of_getElem? (i := 86) (by decide +kernel))) (va_eqt (hs (.eq (.static "java/lang/String" "COMPACT_STRINGS" "Z") (.int 1)) (by decide +kernel))) hA, va_Zqof (hts (.laysStatic "jdk/internal/util/Preconditions" "SIOOBE_FORMATTER" "Ljava/util/function/BiFunction;") (List.mem_of_getElem? (i := 474) (by decide +kernel))) (hts (.initialized "jdk/internal/util/Preconditions") (List.mem_of_getElem? (i := 90) (by decide +kernel))) (hs (.isRef (.static "jdk/internal/util/Preconditions" "SIOOBE_FORMATTER" "Ljava/util/function/BiFunction;")) (by decide +kernel)) hA⟩
  obtain ⟨q0, b0, e0, h0⟩ := kText (s := s) (args := #[Value.ref b]) (own := RX4) (k := 28) (n := 0) (l := []) (A := fun q : Nat => s.heap.size ≤ q) (by decide) (hs _ (by decide +kernel)) (hs _ (by decide +kernel)) (hs _ (by decide +kernel)) (hs _ (by decide +kernel)) (fun j hj => absurd hj (Nat.not_lt_zero j)) hA hJ
  obtain ⟨q1, b1, e1, h1⟩ := kText (s := s) (args := #[Value.ref b]) (own := RX4) (k := 41) (n := 3) (l := [121, 103, 120]) (A := fun q : Nat => s.heap.size ≤ q) (by decide) (hs _ (by decide +kernel)) (hs _ (by decide +kernel)) (hs _ (by decide +kernel)) (hs _ (by decide +kernel)) (fun j hj => by rcases (show j = 0 ∨ j = 1 ∨ j = 2 by omega) with rfl | rfl | rfl <;> exact hs _ (by decide +kernel)) hA hJ
  obtain ⟨q2, b2, e2, h2⟩ := kText (s := s) (args := #[Value.ref b]) (own := RX4) (k := 43) (n := 1) (l := [119]) (A := fun q : Nat => s.heap.size ≤ q) (by decide) (hs _ (by decide +kernel)) (hs _ (by decide +kernel)) (hs _ (by decide +kernel)) (hs _ (by decide +kernel)) (fun j hj => by rcases (show j = 0 by omega) with rfl <;> exact hs _ (by decide +kernel)) hA hJ
  obtain ⟨q3, b3, e3, h3⟩ := kText (s := s) (args := #[Value.ref b]) (own := RX4) (k := 45) (n := 8) (l := [118, 112, 110, 109, 115, 117, 100, 105]) (A := fun q : Nat => s.heap.size ≤ q) (by decide) (hs _ (by decide +kernel)) (hs _ (by decide +kernel)) (hs _ (by decide +kernel)) (hs _ (by decide +kernel)) (fun j hj => by rcases (show j = 0 ∨ j = 1 ∨ j = 2 ∨ j = 3 ∨ j = 4 ∨ j = 5 ∨ j = 6 ∨ j = 7 by omega) with rfl | rfl | rfl | rfl | rfl | rfl | rfl | rfl <;> exact hs _ (by decide +kernel)) hA hJ
  obtain ⟨q4, b4, e4, h4⟩ := kText (s := s) (args := #[Value.ref b]) (own := RX4) (k := 47) (n := 5) (l := [97, 98, 99, 100, 101]) (A := fun q : Nat => s.heap.size ≤ q) (by decide) (hs _ (by decide +kernel)) (hs _ (by decide +kernel)) (hs _ (by decide +kernel)) (hs _ (by decide +kernel)) (fun j hj => by rcases (show j = 0 ∨ j = 1 ∨ j = 2 ∨ j = 3 ∨ j = 4 by omega) with rfl | rfl | rfl | rfl | rfl <;> exact hs _ (by decide +kernel)) hA hJ
  obtain ⟨q5, b5, e5, h5⟩ := kText (s := s) (args := #[Value.ref b]) (own := RX10) (k := 26) (n := 3) (l := [121, 103, 120]) (A := fun q : Nat => s.heap.size ≤ q) (by decide) (hs _ (by decide +kernel)) (hs _ (by decide +kernel)) (hs _ (by decide +kernel)) (hs _ (by decide +kernel)) (fun j hj => by rcases (show j = 0 ∨ j = 1 ∨ j = 2 by omega) with rfl | rfl | rfl <;> exact hs _ (by decide +kernel)) hA hJ
  obtain ⟨q6, b6, e6, h6⟩ := kText (s := s) (args := #[Value.ref b]) (own := RX10) (k := 229) (n := 1) (l := [119]) (A := fun q : Nat => s.heap.size ≤ q) (by decide) (hs _ (by decide +kernel)) (hs _ (by decide +kernel)) (hs _ (by decide +kernel)) (hs _ (by decide +kernel)) (fun j hj => by rcases (show j = 0 by omega) with rfl <;> exact hs _ (by decide +kernel)) hA hJ
  obtain ⟨q7, b7, e7, h7⟩ := kText (s := s) (args := #[Value.ref b]) (own := RX10) (k := 32) (n := 8) (l := [118, 112, 110, 109, 115, 117, 100, 105]) (A := fun q : Nat => s.heap.size ≤ q) (by decide) (hs _ (by decide +kernel)) (hs _ (by decide +kernel)) (hs _ (by decide +kernel)) (hs _ (by decide +kernel)) (fun j hj => by rcases (show j = 0 ∨ j = 1 ∨ j = 2 ∨ j = 3 ∨ j = 4 ∨ j = 5 ∨ j = 6 ∨ j = 7 by omega) with rfl | rfl | rfl | rfl | rfl | rfl | rfl | rfl <;> exact hs _ (by decide +kernel)) hA hJ
  obtain ⟨q8, b8, e8, h8⟩ := kText (s := s) (args := #[Value.ref b]) (own := RX10) (k := 231) (n := 5) (l := [97, 98, 99, 100, 101]) (A := fun q : Nat => s.heap.size ≤ q) (by decide) (hs _ (by decide +kernel)) (hs _ (by decide +kernel)) (hs _ (by decide +kernel)) (hs _ (by decide +kernel)) (fun j hj => by rcases (show j = 0 ∨ j = 1 ∨ j = 2 ∨ j = 3 ∨ j = 4 by omega) with rfl | rfl | rfl | rfl | rfl <;> exact hs _ (by decide +kernel)) hA hJ
  have hLit : kLit (kAd9 q0 q1 q2 q3 q4 q5 q6 q7 q8) s := ⟨vk_R.of (hts (.stringRef RX4 28 "") (List.mem_of_getElem? (i := 128) (by decide +kernel))) e0, vk_R.of (hts (.stringRef RX4 41 "ygx") (List.mem_of_getElem? (i := 402) (by decide +kernel))) e1, vk_R.of (hts (.stringRef RX4 43 "w") (List.mem_of_getElem? (i := 403) (by decide +kernel))) e2, vk_R.of (hts (.stringRef RX4 45 "vpnmsudi") (List.mem_of_getElem? (i := 404) (by decide +kernel))) e3, vk_R.of (hts (.stringRef RX4 47 "abcde") (List.mem_of_getElem? (i := 405) (by decide +kernel))) e4, vk_R.of (hts (.stringRef RX10 26 "ygx") (List.mem_of_getElem? (i := 1081) (by decide +kernel))) e5, vk_R.of (hts (.stringRef RX10 229 "w") (List.mem_of_getElem? (i := 1267) (by decide +kernel))) e6, vk_R.of (hts (.stringRef RX10 32 "vpnmsudi") (List.mem_of_getElem? (i := 1082) (by decide +kernel))) e7, vk_R.of (hts (.stringRef RX10 231 "abcde") (List.mem_of_getElem? (i := 1268) (by decide +kernel))) e8⟩
  have hNL : kNL s := by
    unfold kNL kNLl
    simp only [List.forall_mem_cons]
    exact ⟨va_Nw.of rfl (hts (.methodLinkNest RX9 11 yX8_init RX9) (List.mem_of_getElem? (i := 110) (by decide +kernel))), va_Nw.of rfl (hts (.methodLinkNest RX9 27 yX5_init RX9) (List.mem_of_getElem? (i := 158) (by decide +kernel))), va_Nw.of rfl (hts (.methodLinkNest RX9 46 yX2_init RX9) (List.mem_of_getElem? (i := 186) (by decide +kernel))), va_Nw.of rfl (hts (.fieldLinkNest RX1 87 "NotEnded$Folk" "holds" "[I" RX9) (List.mem_of_getElem? (i := 191) (by decide +kernel))), va_Nw.of rfl (hts (.fieldLinkNest RX1 90 "NotEnded$Folk" "putIn" "[I" RX9) (List.mem_of_getElem? (i := 193) (by decide +kernel))), va_Nw.of rfl (hts (.fieldLinkNest RX1 91 "NotEnded$Folk" "houses" "[I" RX9) (List.mem_of_getElem? (i := 195) (by decide +kernel))), va_Nw.of rfl (hts (.fieldLinkNest RX1 158 "NotEnded$Folk" "knows" "[I" RX9) (List.mem_of_getElem? (i := 197) (by decide +kernel))), va_Nw.of rfl (hts (.methodLinkNest RX9 62 yX3_init RX9) (List.mem_of_getElem? (i := 286) (by decide +kernel))), va_Nw.of rfl (hts (.methodLinkNest RX9 69 yX0_init RX9) (List.mem_of_getElem? (i := 311) (by decide +kernel))), va_Nw.of rfl (hts (.methodLinkNest RX8 19 yX9_within RX9) (List.mem_of_getElem? (i := 388) (by decide +kernel))), va_Nw.of rfl (hts (.fieldLinkNest RX5 23 "NotEnded$Rule" "steps" "[I" RX9) (List.mem_of_getElem? (i := 587) (by decide +kernel))), va_Nw.of rfl (hts (.fieldLinkNest RX5 18 "NotEnded$Rule" "clauses" "[I" RX9) (List.mem_of_getElem? (i := 589) (by decide +kernel))), va_Nw.of rfl (hts (.methodLinkNest RX1 116 yX9_isBit RX9) (List.mem_of_getElem? (i := 672) (by decide +kernel))), va_Nw.of rfl (hts (.methodLinkNest RX1 164 yX9_isHouse RX9) (List.mem_of_getElem? (i := 675) (by decide +kernel))), va_Nw.of rfl (hts (.methodLinkNest RX2 45 yX9_isBit RX9) (List.mem_of_getElem? (i := 680) (by decide +kernel))), va_Nw.of rfl (hts (.methodLinkNest RX1 147 yX9_within RX9) (List.mem_of_getElem? (i := 730) (by decide +kernel))), va_Nw.of rfl (hts (.methodLinkNest RX3 31 yX9_isBit RX9) (List.mem_of_getElem? (i := 836) (by decide +kernel))), va_Nw.of rfl (hts (.methodLinkNest RX0 28 yX9_isBit RX9) (List.mem_of_getElem? (i := 944) (by decide +kernel))), va_Nw.of rfl (hts (.methodLinkNest RX0 45 yX9_isLowerFirst RX9) (List.mem_of_getElem? (i := 949) (by decide +kernel))), fun _ z => absurd z List.not_mem_nil⟩
  have hCl : kCl s := va_Nw.of rfl (hts (.castable "[I" "java/lang/Cloneable") (List.mem_of_getElem? (i := 576) (by decide +kernel)))
  refine ⟨kAd9 q0 q1 q2 q3 q4 q5 q6 q7 q8, kAd9 b0 b1 b2 b3 b4 b5 b6 b7 b8, ⟨hLit, ?_, ?_, ?_, ?_, ?_, ?_⟩, ⟨⟨hLit, h1, h3⟩, ⟨hLit, h2, h4⟩, hNL, hCl⟩, ⟨⟨hLit, h5, h7⟩, ⟨hLit, h6, h8⟩⟩, ?_, ?_, ?_, ?_, ?_, ?_⟩
  · exact va_AO.of (hts (.arrayOver (.object RX6)) (List.mem_of_getElem? (i := 176) (by decide +kernel)))
  · exact va_Nw.of rfl (hts (.methodLinkNest RX9 11 yX8_init RX9) (List.mem_of_getElem? (i := 110) (by decide +kernel)))
  · exact va_Nw.of rfl (hts (.methodLinkNest RX9 27 yX5_init RX9) (List.mem_of_getElem? (i := 158) (by decide +kernel)))
  · exact va_Nw.of rfl (hts (.methodLinkNest RX9 46 yX2_init RX9) (List.mem_of_getElem? (i := 186) (by decide +kernel)))
  · exact va_Nw.of rfl (hts (.methodLinkNest RX9 62 yX3_init RX9) (List.mem_of_getElem? (i := 286) (by decide +kernel)))
  · exact va_Nw.of rfl (hts (.methodLinkNest RX9 69 yX0_init RX9) (List.mem_of_getElem? (i := 311) (by decide +kernel)))
  · exact va_Nw.of rfl (hts (.declares (Bundle.init0 "java/lang/RuntimeException")) (List.mem_of_getElem? (i := 1013) (by decide +kernel)))
  · exact va_Nw.of rfl (hts (.declares (Bundle.init0 "java/lang/Exception")) (List.mem_of_getElem? (i := 1015) (by decide +kernel)))
  · exact va_Nw.of rfl (hts (.declares (Bundle.init0 Bundle.tN)) (List.mem_of_getElem? (i := 1017) (by decide +kernel)))
  · exact va_Nw.of rfl (hts (.castable kNS kNS) (List.mem_of_getElem? (i := 1012) (by decide +kernel)))
  · exact vx_Zqof (hts (.laysStatic Bundle.tN "UNASSIGNED_STACK" Bundle.steD) (List.mem_of_getElem? (i := 1037) (by decide +kernel))) (hts (.initialized Bundle.tN) (List.mem_of_getElem? (i := 94) (by decide +kernel))) (hs (.isRef (.static Bundle.tN "UNASSIGNED_STACK" Bundle.steD)) (by decide +kernel)) hA
  · exact vx_Zqof (hts (.laysStatic Bundle.tN "SUPPRESSED_SENTINEL" Bundle.listD) (List.mem_of_getElem? (i := 1039) (by decide +kernel))) (hts (.initialized Bundle.tN) (List.mem_of_getElem? (i := 94) (by decide +kernel))) (hs (.isRef (.static Bundle.tN "SUPPRESSED_SENTINEL" Bundle.listD)) (by decide +kernel)) hA
/-- what holds at the loop's head -/
def kInv (dC : Nat → ClassId) (dI : Nat → Nat → Nat) (jX : Nat) (jC : Nat) (d2 : Nat) (d3 : Nat) (d4 : Nat) (d5 : Nat) (d6 : Nat) (d7 : Nat) (d8 : Nat) (d9 : Nat) (d10 : Nat) (d11 : Nat) (d12 : Nat) (d13 : Nat) (hF : Nat) (f0 : Nat) (f1 : Nat) (f2 : Nat) (f3 : Nat) (f4 : Nat) (jK : Nat) (k0 : Nat) (k1 : Nat) (hN : Nat) (o0 : Nat) (o1 : Nat) (o2 : Nat) (o3 : Nat) (o4 : Nat) (jA : Nat) (i0 : Nat) (i1 : Nat) (i2 : Nat) (i3 : Nat) (jL : Nat) (rL : Nat) (jU : Nat) (rU : Nat) (sd : Nat) (jR : Nat) (r1 : Nat) (r2 : Nat) (jT : Nat) (tz0 : Nat) (jM : Nat) (m1 : Nat) (m2 : Nat) (m3 : Nat) (m4 : Nat) (m19 : Nat) (m20 : Nat) (m21 : Nat) (m22 : Nat) (m23 : Nat) (m24 : Nat) (m25 : Nat) (m28 : Nat) (m29 : Nat) (m30 : Nat) (m31 : Nat) (m32 : Nat) (m33 : Nat) (m34 : Nat) (m35 : Nat) (m36 : Nat) (m40 : Nat) (m41 : Nat) (m42 : Nat) (m43 : Nat) (m44 : Nat) (m46 : Nat) (m47 : Nat) (m48 : Nat) (m49 : Nat) (m50 : Nat) (oo : Nat) (w2 : ClassId) (w3 : ClassId) (w4 : ClassId) (w5 : ClassId) (w6 : ClassId) (w7 : ClassId) (w8 : ClassId) (w9 : ClassId) (w10 : ClassId) (w11 : ClassId) (w12 : ClassId) (w13 : ClassId) (z0 : ClassId) (z1 : ClassId) (z2 : ClassId) (z3 : ClassId) (z4 : ClassId) (cK : ClassId) (cO : ClassId) (y0 : ClassId) (y1 : ClassId) (y2 : ClassId) (y3 : ClassId) (y4 : ClassId) (x0 : ClassId) (x1 : ClassId) (x2 : ClassId) (x3 : ClassId) (cL : ClassId) (cU : ClassId) (cD : ClassId) (c1 : ClassId) (c2 : ClassId) (cC : ClassId) (mc1 : ClassId) (mc2 : ClassId) (mc3 : ClassId) (mc4 : ClassId) (mc19 : ClassId) (mc20 : ClassId) (mc21 : ClassId) (mc22 : ClassId) (mc23 : ClassId) (mc24 : ClassId) (mc25 : ClassId) (mc28 : ClassId) (mc29 : ClassId) (mc30 : ClassId) (mc31 : ClassId) (mc32 : ClassId) (mc33 : ClassId) (mc34 : ClassId) (mc35 : ClassId) (mc36 : ClassId) (mc40 : ClassId) (mc41 : ClassId) (mc42 : ClassId) (mc43 : ClassId) (mc44 : ClassId) (mc46 : ClassId) (mc47 : ClassId) (mc48 : ClassId) (mc49 : ClassId) (mc50 : ClassId) (cOo : ClassId) (b : Nat) (s : State) (i : Nat) (H : Heap) (locs : List Loc) (cells slots : Nat) (ls : Array Slot) : Prop := ∀ C9 : Prop, (∀ (lw : Value) (e2 : Nat → Int32) (e3 : Nat → Int32) (e4 : Nat → Int32) (e5 : Nat → Int32) (e6 : Nat → Int32) (e7 : Nat → Int32) (e8 : Nat → Int32) (e9 : Nat → Int32) (e10 : Nat → Int32) (e11 : Nat → Int32) (e12 : Nat → Int32) (e13 : Nat → Int64) (cdr : Int64) (cpr : Int32) (cmo : Int32) (cho : Int32) (g0 : Nat → Int32) (g1 : Nat → Int32) (g2 : Nat → Int32) (g3 : Nat → Int32) (g4 : Nat → Int32) (sv : Nat) (ks : Nat) (kw : Nat) (l0 : Nat → Int32) (l1 : Nat → Int32) (q0 : Nat → Int32) (q1 : Nat → Int32) (q2 : Nat → Int32) (q3 : Nat → Int32) (q4 : Nat → Int32) (kn : Nat) (ta0 : Nat → Int32) (ta1 : Nat → Int32) (ta2 : Nat → Int32) (ta3 : Nat → Int32) (ka : Nat) (gL : Nat → Option Nat) (kl : Nat) (gU : Nat → Option Nat) (ku : Nat) (gD : Nat → Int32) (gTp : Nat → Int32) (kt : Nat) (s1 : Nat → Int32) (s2 : Nat → Int32) (wr : Nat) (fi : Nat) (rpl : Int32) (rv6 : Value) (rv7 : Value) (th : Int32) (thr : Int32) (xx : Int64) (v5 : Value) (v9 : Value) (v10 : Value) (v11 : Value) (v12 : Value) (v13 : Value) (v14 : Value) (v15 : Value) (v16 : Value) (v17 : Value) (v18 : Value) (mf1 : Nat → Int32) (mf2 : Nat → Int32) (mf3 : Nat → Int32) (mf4 : Nat → Int32) (mf19 : Nat → Int32) (mf20 : Nat → Int32) (mf21 : Nat → Int32) (mf22 : Nat → Int32) (mf23 : Nat → Int32) (mf24 : Nat → Int32) (mf25 : Nat → Int32) (mf28 : Nat → Int32) (mf29 : Nat → Int32) (mf30 : Nat → Int32) (mf31 : Nat → Int32) (mf32 : Nat → Int32) (mf33 : Nat → Int32) (mf34 : Nat → Int32) (mf35 : Nat → Int32) (mf36 : Nat → Int32) (mf40 : Nat → Int32) (mf41 : Nat → Int32) (mf42 : Nat → Int32) (mf43 : Nat → Int32) (mf44 : Nat → Int32) (mf46 : Nat → Int64) (mf47 : Nat → Int32) (mf48 : Nat → Int32) (mf49 : Nat → Int32) (mf50 : Nat → Int32) (ho : Nat) (fo : Nat → Int64) (tb : Nat → Nat) (yL : Nat → List kTr) (yU : Nat → List kTr), (ks ≤ 10) → (kw ≤ 4) → (sv < 1024) → (kn ≤ 20) → (ka ≤ 6) → (kl ≤ 6) → (ku ≤ 8) → (kt ≤ 120) → (wr ≤ 120) → (fi ≤ 124) → (∀ j : Nat, gTp j = nI (tb j)) → (∀ j : Nat, tb j < 256) → (∀ j : Nat, j < kt → 1 ≤ tb j) → (∀ j : Nat, mf1 j = kSg (tb j)) → (ho ≤ 48) → (∀ q : Nat, q < ks → ¬ mf23 q = -1 → ∃ t : Nat, t < ku ∧ mf23 q = nI t) → (∀ k : Nat, k < kn → ∃ v : Nat, v < ks ∧ mf40 k = nI v) → (kUn mf2 mf3 0 kl (kTx [121, 103, 120]) 3 (kTx [118, 112, 110, 109, 115, 117, 100, 105]) 8 yL) → (kUn mf2 mf3 6 ku (kTx [119]) 1 (kTx [97, 98, 99, 100, 101]) 5 yU) → (∀ j : Nat, j < ks → (mf25 j = 0 ↔ kIsB (nI sv) (nI j) = 0)) → (sv < 2 ^ ks) → kPD dC dI (fun q : Nat => s.heap.size ≤ q) [(jX, .inr (9, [.ref jT, .ref jR, .ref jK, .ref jL, .ref jU, .ref hF, .ref jC, .ref hN, .ref jA, .ref sd])), (jC, .inr (1, [.ref hF, .ref jK, .ref d2, .ref d3, .ref d4, .ref d5, .ref d6, .ref d7, .ref d8, .ref d9, .ref d10, .ref d11, .ref d12, .ref d13, lw, .long cdr, .int cpr, .int cmo, .int cho])), (d2, .inl (w2, 10, .inl e2)), (d3, .inl (w3, 10, .inl e3)), (d4, .inl (w4, 10, .inl e4)), (d5, .inl (w5, 10, .inl e5)), (d6, .inl (w6, 10, .inl e6)), (d7, .inl (w7, 10, .inl e7)), (d8, .inl (w8, 10, .inl e8)), (d9, .inl (w9, 10, .inl e9)), (d10, .inl (w10, 4, .inl e10)), (d11, .inl (w11, 4, .inl e11)), (d12, .inl (w12, 4, .inl e12)), (d13, .inl (w13, 9, .inr (.inl e13))), (hF, .inr (2, [.ref f0, .ref f1, .ref f2, .ref f3, .ref f4, .int (nI (sv)), .int (nI (ks)), .int (nI (kw))])), (f0, .inl (z0, 10, .inl g0)), (f1, .inl (z1, 10, .inl g1)), (f2, .inl (z2, 10, .inl g2)), (f3, .inl (z3, 10, .inl g3)), (f4, .inl (z4, 4, .inl g4)), (jK, .inr (5, [.ref k0, .ref k1])), (k0, .inl (cK, 8, .inl l0)), (k1, .inl (cO, 32, .inl l1)), (hN, .inr (3, [.ref o0, .ref o1, .ref o2, .ref o3, .ref o4, .int (nI (kn))])), (o0, .inl (y0, 20, .inl q0)), (o1, .inl (y1, 20, .inl q1)), (o2, .inl (y2, 20, .inl q2)), (o3, .inl (y3, 20, .inl q3)), (o4, .inl (y4, 20, .inl q4)), (jA, .inr (0, [.ref i0, .ref i1, .ref i2, .ref i3, .int (nI (ka))])), (i0, .inl (x0, 6, .inl ta0)), (i1, .inl (x1, 6, .inl ta1)), (i2, .inl (x2, 6, .inl ta2)), (i3, .inl (x3, 6, .inl ta3)), (jL, .inr (7, [.ref rL, .int (nI (kl))])), (rL, .inl (cL, 6, .inr (.inr (.inr (.inr gL))))), (jU, .inr (7, [.ref rU, .int (nI (ku))])), (rU, .inl (cU, 8, .inr (.inr (.inr (.inr gU))))), (sd, .inl (cD, 10, .inl gD)), (jR, .inr (4, [.ref jT, .ref r1, .ref r2, .int (nI (wr)), .int (nI (fi)), .int rpl, rv6, rv7])), (r1, .inl (c1, 120, .inl s1)), (r2, .inl (c2, 124, .inl s2)), (jT, .inr (8, [.ref tz0, .int (nI (kt))])), (tz0, .inl (cC, 120, .inl gTp)), (jM, .inr (10, [.int th, .ref m1, .ref m2, .ref m3, .ref m4, v5, .int (nI (kt)), .int (nI (kl)), .int (nI (ku)), v9, v10, v11, v12, v13, v14, v15, v16, v17, v18, .ref m19, .ref m20, .ref m21, .ref m22, .ref m23, .ref m24, .ref m25, .int (nI (ks)), .int (nI (kw)), .ref m28, .ref m29, .ref m30, .ref m31, .ref m32, .ref m33, .ref m34, .ref m35, .ref m36, .int thr, .int (nI (ho)), .long xx, .ref m40, .ref m41, .ref m42, .ref m43, .ref m44, .int (nI (kn)), .ref m46, .ref m47, .ref m48, .ref m49, .ref m50, .int (nI (ka))])), (m1, .inl (mc1, 120, .inl mf1)), (m2, .inl (mc2, 1680, .inl mf2)), (m3, .inl (mc3, 14, .inl mf3)), (m4, .inl (mc4, 128, .inl mf4)), (m19, .inl (mc19, 10, .inl mf19)), (m20, .inl (mc20, 10, .inl mf20)), (m21, .inl (mc21, 10, .inl mf21)), (m22, .inl (mc22, 10, .inl mf22)), (m23, .inl (mc23, 10, .inl mf23)), (m24, .inl (mc24, 4, .inl mf24)), (m25, .inl (mc25, 10, .inl mf25)), (m28, .inl (mc28, 10, .inl mf28)), (m29, .inl (mc29, 10, .inl mf29)), (m30, .inl (mc30, 10, .inl mf30)), (m31, .inl (mc31, 10, .inl mf31)), (m32, .inl (mc32, 10, .inl mf32)), (m33, .inl (mc33, 10, .inl mf33)), (m34, .inl (mc34, 10, .inl mf34)), (m35, .inl (mc35, 10, .inl mf35)), (m36, .inl (mc36, 10, .inl mf36)), (m40, .inl (mc40, 20, .inl mf40)), (m41, .inl (mc41, 20, .inl mf41)), (m42, .inl (mc42, 20, .inl mf42)), (m43, .inl (mc43, 20, .inl mf43)), (m44, .inl (mc44, 20, .inl mf44)), (m46, .inl (mc46, 14, .inr (.inl mf46))), (m47, .inl (mc47, 6, .inl mf47)), (m48, .inl (mc48, 6, .inl mf48)), (m49, .inl (mc49, 6, .inl mf49)), (m50, .inl (mc50, 6, .inl mf50)), (oo, .inl (cOo, 1, .inr (.inl fo)))] H → va_S (fun q : Nat => s.heap.size ≤ q) s.heap H locs → kShL dC dI kl gL yL 8 [jX, jC, d2, d3, d4, d5, d6, d7, d8, d9, d10, d11, d12, d13, hF, f0, f1, f2, f3, f4, jK, k0, k1, hN, o0, o1, o2, o3, o4, jA, i0, i1, i2, i3, jL, rL, jU, rU, sd, jR, r1, r2, jT, tz0, jM, m1, m2, m3, m4, m19, m20, m21, m22, m23, m24, m25, m28, m29, m30, m31, m32, m33, m34, m35, m36, m40, m41, m42, m43, m44, m46, m47, m48, m49, m50, oo] s H → kShL dC dI ku gU yU 5 [jX, jC, d2, d3, d4, d5, d6, d7, d8, d9, d10, d11, d12, d13, hF, f0, f1, f2, f3, f4, jK, k0, k1, hN, o0, o1, o2, o3, o4, jA, i0, i1, i2, i3, jL, rL, jU, rU, sd, jR, r1, r2, jT, tz0, jM, m1, m2, m3, m4, m19, m20, m21, m22, m23, m24, m25, m28, m29, m30, m31, m32, m33, m34, m35, m36, m40, m41, m42, m43, m44, m46, m47, m48, m49, m50, oo] s H → lv_has ls 7 [(4, .int (nI (i))), (3, .ref oo), (2, .ref jM), (1, .ref jX), (0, .ref b)] → cells ≤ 1000 + 3 * i → slots ≤ 9000 + 402 * i → C9) → C9
