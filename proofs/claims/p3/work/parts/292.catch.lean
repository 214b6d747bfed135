/-- thrown over a frame of a method whose table has one row: that row covers the place and names a class that takes it, so the walk goes on at its handler. (Our own row: the printed one names a law that rounds don't have.) -/
theorem kCatch {p : Program} {l : Launch} {e : Env} {R : Room} {s : State} {m : MethodId} {args : Array Value} {below : List Frame} {meth : Method} {c : Code} {H : Heap} {locs : List Loc} {cells slots : Nat} {Q : State → Prop} {ls : Array Slot} {rest : List Value} {pc : Nat}
    {own name E : String} {ce : Cell} {q : Addr} {x : ExceptionTableEntry} (hown : s.vm.findClass own = some m.cls) (hone : c.exceptionTable.toList = [x]) (hcov : covers x pc = true) (h0 : x.catchType ≠ 0)
    (hlink : (Cond.classLink own x.catchType name).before args s = true) (hcast : (Cond.castable E name).before args s = true) (hcell : H[q]? = some ce) (hv : ce.vm = .none) (hcl : s.vm.findClass E = some ce.cls)
    (kk : W p l e R s m args below meth c H locs cells slots Q (F0 m x.handlerPc ls [.ref q])) : vx_W p l e R s m args below meth c H locs cells slots Q (F0 m pc ls rest) q := by
  intro T hT X
  have hpl : e.platform.magicAccessors = ({} : Platform).magicAccessors := by rw [X.admits.platform]
  obtain ⟨cE, cN, hE, hN, hasg⟩ := Cond.castable_spec hcast
  obtain ⟨cL, hL, hlk⟩ := Cond.classLink_spec hown hlink e.platform hpl
  cases Option.some.inj (hE.symm.trans hcl)
  cases Option.some.inj (hN.symm.trans hL)
  obtain ⟨S, hSe⟩ : ∃ S : State, S = (T.setTop (F0 m pc ls rest)).pushFrame (.throwing q) := ⟨_, rfl⟩
  have hSv : S.vm = T.vm := by rw [hSe]; rfl
  have hSh : S.heap[q]? = some ce := by rw [hSe]; show T.heap[q]? = some ce; rw [hT]; exact hcell
  have hWS : s.WarmedH S.vm := by rw [hSv]; exact X.warmed
  have hlS : S.vm.ClassLinks e.platform m.cls x.catchType cN := hWS.classLinks hlk
  obtain ⟨hr1, hr2⟩ := (resolveClass_links e.toSetting hlS).op (op := VmOp.resolveClass m.cls x.catchType) rfl
  obtain ⟨vm1, hvm1⟩ : ∃ v : Vm, v = S.vm.noted m.cls x.catchType (.cls cN) := ⟨_, rfl⟩
  have hal : s.vm.Alike vm1 := by rw [hvm1]; exact hWS.alike.noted _ _ _
  obtain ⟨k1, hk1⟩ := Vm.classAt_of_findClass hcl
  obtain ⟨k2, hk2⟩ := Vm.classAt_of_findClass hL
  obtain ⟨k1', hk1', -⟩ := hal.2.2 _ _ hk1
  obtain ⟨k2', hk2', -⟩ := hal.2.2 _ _ hk2
  have hfit : vm1.assignable ce.cls cN = true := by rw [hal.assignable]; exact hasg
  have hns : ∀ k, ce.vm ≠ .statics k := fun k h => by rw [hv] at h; cases h
  have hcv : (decide (x.startPc ≤ pc) && decide (pc < x.endPc)) = true := hcov
  have hm : S.vm.method? m = some meth := by rw [hSv]; exact X.method'
  have hfind : ∀ (Q : Handler → Pre) (E : CtlPost) (d : Bool) (acts : List Action), wp (findHandler (F0 m pc ls rest) q) Q E e d acts S ↔ Q (.found x.handlerPc) d acts (S.setVm vm1) := by
    intro Q E d acts
    rw [W.findHandler_eq (f := F0 m pc ls rest) hm X.code, hone]
    have hcv1 : x.startPc ≤ pc ∧ pc < x.endPc := by simpa using hcv
    rw [hvm1] at hk1' hk2' hfit ⊢
    simp [findHandler.go, F0, hcv1.1, hcv1.2, h0, hr1, hr2, hSh, hns, hk1', hk2', hfit, VmOp.dirties, VmOp.acts]
  obtain ⟨dk, z1, z2, kt, hd, z3, z4, z5, z6, hkt, z7, hop⟩ := hlk.here
  have X' := X.noted (vm' := vm1) (by
    rw [hvm1, hSv]
    exact X.warmed.noted hd hop (State.rightAt_cls hlk))
  obtain ⟨t, st, hq⟩ := kk (T.setVm vm1) hT X'
  refine ⟨t, ?_, hq⟩
  obtain ⟨hgo, hwi⟩ := X.here.throwing (g := F0 m pc ls rest) q
  refine Steps.head hgo hwi ?_
  rw [stepThread_throwing (frames_entered X.here.top _)]
  have hstep : (stepThrowing e S q (.java (F0 m pc ls rest) :: T.frames.tail)).Is ((S.setVm vm1).setFrames (.java { F0 m pc ls rest with pc := x.handlerPc, stack := [.ref q] } :: T.frames.tail)) [] := by
    simp only [stepThrowing, searchFrame, vmDo]
    generalize hgo9 : Sem.go _ e false [] S = res
    obtain ⟨as, rfl, has⟩ := Sem.eq_ok_of hgo9 (a := Handler.found x.handlerPc) (s' := S.setVm vm1) (acts' := []) (by simp [hfind _ _ _ _])
    exact ⟨rfl, has⟩
  rw [← hSe, hstep.1]
  obtain ⟨g₀, hg⟩ := Option.isSome_iff_exists.mp X.here.top
  obtain ⟨r, hr⟩ := State.topJava?_eq_some.mp hg
  have hr' : (T.setVm vm1).frames = .java g₀ :: r := hr
  rw [State.setTop_of_frames _ hr'] at st
  have e1 : (S.setVm vm1).setFrames (.java { F0 m pc ls rest with pc := x.handlerPc, stack := [.ref q] } :: T.frames.tail) = (T.setVm vm1).setFrames (.java (F0 m x.handlerPc ls [.ref q]) :: r) := by
    rw [hSe, State.pushFrame, State.setTop_of_frames _ hr, hr]
    have e2 : ∀ (u : State) (F G : List Frame), ((u.setFrames F).setVm vm1).setFrames G = (u.setVm vm1).setFrames G := fun u F G => by
      rw [show (u.setFrames F).setVm vm1 = (u.setVm vm1).setFrames F from rfl, State.setFrames_setFrames]
    rw [e2, e2]
    rfl
  rw [e1]
  exact st
abbrev kNS : String := "java/util/NoSuchElementException"
abbrev kNs : List String := ["java/lang/RuntimeException", "java/lang/Exception"]
/-- what a throw needs beside the tables' good words: three declared makers, a cast, two statics of Throwable -/
def kThr (A : Nat → Prop) (U : State) : Prop := va_Nw (.declares (Bundle.init0 "java/lang/RuntimeException")) U ∧ va_Nw (.declares (Bundle.init0 "java/lang/Exception")) U ∧ va_Nw (.declares (Bundle.init0 Bundle.tN)) U ∧ va_Nw (.castable kNS kNS) U ∧ vx_Zq Bundle.tN "UNASSIGNED_STACK" Bundle.steD A U U.heap ∧ vx_Zq Bundle.tN "SUPPRESSED_SENTINEL" Bundle.listD A U U.heap
theorem kThr_blind {A : Nat → Prop} : ∀ (U : State) (g : JFrame) (mk : MethodId) (a : Array Value), kThr A U → kThr A (U.calling g mk a) := fun U _ _ _ h => by
  obtain ⟨h1, h2, h3, h4, h5, h6⟩ := h
  exact ⟨va_Nw.same (u := U) rfl rfl h1, va_Nw.same (u := U) rfl rfl h2, va_Nw.same (u := U) rfl rfl h3, va_Nw.same (u := U) rfl rfl h4, vx_Zq.moved (u := U) (Vm.Alike.refl U.vm) h5, vx_Zq.moved (u := U) (Vm.Alike.refl U.vm) h6⟩
theorem kThr_give {A : Nat → Prop} {s : State} {H : Heap} {locs : List Loc} (h : kThr A s) (hS : va_S A s.heap H locs) : ∀ U : State, U.heap = H → s.WarmedH U.vm → kThr A U := fun U hU hW => by
  obtain ⟨h1, h2, h3, h4, h5, h6⟩ := h
  have hq : ∀ a : Nat, a < s.heap.size → ¬ A a → U.heap[a]? = s.heap[a]? := fun a z1 z2 => by rw [hU]; exact hS.2.1 a z1 z2
  exact ⟨va_Nw.warmD hW h1, va_Nw.warmD hW h2, va_Nw.warmD hW h3, va_Nw.warmC hW h4, vx_Zq.moved hW.alike (h5.kept hq), vx_Zq.moved hW.alike (h6.kept hq)⟩
def kBadL : List Cond := [.declares (Bundle.init0 "java/lang/RuntimeException"), .declares (Bundle.init0 "java/lang/Exception"), .declares (Bundle.init0 Bundle.tN), .castable kNS kNS]
theorem kBadL_in : ∀ w ∈ (vx_at0 RX9 144 kNS kNs).filter (fun w => !goodWord w), w ∈ kBadL := by decide +kernel
theorem kThr_bad {A : Nat → Prop} {s : State} {args : Array Value} (h : kThr A s) : ∀ w ∈ kBadL, w.before args s = true := by
  obtain ⟨h1, h2, h3, h4, -, -⟩ := h
  exact vx_c (va_Nw.use rfl h1) (vx_c (va_Nw.use rfl h2) (vx_c (va_Nw.use rfl h3) (vx_c (va_Nw.use rfl h4) vx_n)))
theorem kThr_ot : ∀ w ∈ Cond.classLink RX9 142 kNS :: Cond.initialized kNS :: vx_at0 RX9 144 kNS kNs, vx_ot w = true := by decide +kernel
theorem kAtGood : ((vx_at0 RX9 144 kNS kNs).filter goodWord).all goodWord = true := by decide +kernel

