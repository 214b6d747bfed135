/-- thrown over a frame of a method whose table has one row: that row covers the place and names a class that takes it, so the walk goes on at its handler. (Our own row: the printed one names a law that rounds don't have.) -/
theorem kCatch {p : Program} {l : Launch} {e : Env} {R : Room} {s : State} {m : MethodId} {args : Array Value} {below : List Frame} {meth : Method} {c : Code} {H : Heap} {locs : List Loc} {cells slots : Nat} {Q : State → Prop} {ls : Array Slot} {rest : List Value} {pc : Nat}
    {own name E : String} {ce : Cell} {q : Addr} {x : ExceptionTableEntry} (hown : s.vm.findClass own = some m.cls) (hone : c.exceptionTable.toList = [x]) (hcov : covers x pc = true) (h0 : x.catchType ≠ 0)
    (hlink : (Cond.classLink own x.catchType name).before args s = true) (hcast : (Cond.castable E name).before args s = true) (hcell : H[q]? = some ce) (hv : ce.vm = .none) (hcl : s.vm.findClass E = some ce.cls)
    (kk : W p l e R s m args below meth c H locs cells slots Q (F0 m x.handlerPc ls [.ref q])) : vx_W p l e R s m args below meth c H locs cells slots Q (F0 m pc ls rest) q := by
  intro T hT X
  have hpl : e.platform.magicAccessors = ({} : Platform).magicAccessors := by rw [X.admits.platform]
  obtain ⟨cE, cN, hE, hN, hasg⟩ := Cond.castable_spec hcast
  obtain ⟨cL, hL, hlk⟩ := Cond.classLink_spec hown hlink e.platform hpl
  cases Option.some.inj (hE.symm.trans hcl)
  cases Option.some.inj (hN.symm.trans hL)
  obtain ⟨S, hSe⟩ : ∃ S : State, S = (T.setTop (F0 m pc ls rest)).pushFrame (.throwing q) := ⟨_, rfl⟩
  have hSv : S.vm = T.vm := by rw [hSe]; rfl
  have hSh : S.heap[q]? = some ce := by rw [hSe]; show T.heap[q]? = some ce; rw [hT]; exact hcell
  have hWS : s.WarmedH S.vm := by rw [hSv]; exact X.warmed
  have hlS : S.vm.ClassLinks e.platform m.cls x.catchType cN := hWS.classLinks hlk
  obtain ⟨hr1, hr2⟩ := (resolveClass_links e.toSetting hlS).op (op := VmOp.resolveClass m.cls x.catchType) rfl
  obtain ⟨vm1, hvm1⟩ : ∃ v : Vm, v = S.vm.noted m.cls x.catchType (.cls cN) := ⟨_, rfl⟩
  have hal : s.vm.Alike vm1 := by rw [hvm1]; exact hWS.alike.noted _ _ _
  obtain ⟨k1, hk1⟩ := Vm.classAt_of_findClass hcl
  obtain ⟨k2, hk2⟩ := Vm.classAt_of_findClass hL
  obtain ⟨k1', hk1', -⟩ := hal.2.2 _ _ hk1
  obtain ⟨k2', hk2', -⟩ := hal.2.2 _ _ hk2
  have hfit : vm1.assignable ce.cls cN = true := by rw [hal.assignable]; exact hasg
  have hns : ∀ k, ce.vm ≠ .statics k := fun k h => by rw [hv] at h; cases h
  have hcv : (decide (x.startPc ≤ pc) && decide (pc < x.endPc)) = true := hcov
  have hm : S.vm.method? m = some meth := by rw [hSv]; exact X.method'
  have hfind : ∀ (Q : Handler → Pre) (E : CtlPost) (d : Bool) (acts : List Action), wp (findHandler (F0 m pc ls rest) q) Q E e d acts S ↔ Q (.found x.handlerPc) d acts (S.setVm vm1) := by
    intro Q E d acts
    rw [W.findHandler_eq (f := F0 m pc ls rest) hm X.code, hone]
    have hcv1 : x.startPc ≤ pc ∧ pc < x.endPc := by simpa using hcv
    rw [hvm1] at hk1' hk2' hfit ⊢
    simp [findHandler.go, F0, hcv1.1, hcv1.2, h0, hr1, hr2, hSh, hns, hk1', hk2', hfit, VmOp.dirties, VmOp.acts]
  obtain ⟨dk, z1, z2, kt, hd, z3, z4, z5, z6, hkt, z7, hop⟩ := hlk.here
  have X' := X.noted (vm' := vm1) (by
    rw [hvm1, hSv]
    exact X.warmed.noted hd hop (State.rightAt_cls hlk))
  obtain ⟨t, st, hq⟩ := kk (T.setVm vm1) hT X'
  refine ⟨t, ?_, hq⟩
  obtain ⟨hgo, hwi⟩ := X.here.throwing (g := F0 m pc ls rest) q
  refine Steps.head hgo hwi ?_
  rw [stepThread_throwing (frames_entered X.here.top _)]
  have hstep : (stepThrowing e S q (.java (F0 m pc ls rest) :: T.frames.tail)).Is ((S.setVm vm1).setFrames (.java { F0 m pc ls rest with pc := x.handlerPc, stack := [.ref q] } :: T.frames.tail)) [] := by
    simp only [stepThrowing, searchFrame, vmDo]
    generalize hgo9 : Sem.go _ e false [] S = res
    obtain ⟨as, rfl, has⟩ := Sem.eq_ok_of hgo9 (a := Handler.found x.handlerPc) (s' := S.setVm vm1) (acts' := []) (by simp [hfind _ _ _ _])
    exact ⟨rfl, has⟩
  rw [← hSe, hstep.1]
  obtain ⟨g₀, hg⟩ := Option.isSome_iff_exists.mp X.here.top
  obtain ⟨r, hr⟩ := State.topJava?_eq_some.mp hg
  have hr' : (T.setVm vm1).frames = .java g₀ :: r := hr
  rw [State.setTop_of_frames _ hr'] at st
  have e1 : (S.setVm vm1).setFrames (.java { F0 m pc ls rest with pc := x.handlerPc, stack := [.ref q] } :: T.frames.tail) = (T.setVm vm1).setFrames (.java (F0 m x.handlerPc ls [.ref q]) :: r) := by
    rw [hSe, State.pushFrame, State.setTop_of_frames _ hr, hr]
    have e2 : ∀ (u : State) (F G : List Frame), ((u.setFrames F).setVm vm1).setFrames G = (u.setVm vm1).setFrames G := fun u F G => by
      rw [show (u.setFrames F).setVm vm1 = (u.setVm vm1).setFrames F from rfl, State.setFrames_setFrames]
    rw [e2, e2]
    rfl
  rw [e1]
  exact st
