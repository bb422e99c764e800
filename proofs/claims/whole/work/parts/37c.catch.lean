section CYC
theorem cy_find {e : Env} {S : State} {f : JFrame} {a : Addr} {mt : Method} {co : Code} {x : ClassFile.ExceptionTableEntry} {k : ClassId} {ce : Cell} (hm : S.vm.method? f.method = some mt) (hc : mt.code = some co) (ht : co.exceptionTable.toList = [x])
    (hx : covers x f.pc = true) (h0 : x.catchType ≠ 0) (hl : S.vm.ClassLinks e.platform f.method.cls x.catchType k) (hce : S.heap[a]? = some ce) (hv : ce.vm = .none)
    {v1 : Vm} (e1 : v1 = S.vm.noted f.method.cls x.catchType (.cls k)) (hk1 : ∃ y, v1.classes[ce.cls]? = some y) (hk2 : ∃ y, v1.classes[k]? = some y) (hfit : v1.assignable ce.cls k = true)
    (Q : Handler → Jvm.Pre) (E : Jvm.CtlPost) (d : Bool) (acts : List Action) : Sem.wp (findHandler f a) Q E e d acts S ↔ Q (.found x.handlerPc) d acts (S.setVm v1) := by
  obtain ⟨y1, hk1⟩ := hk1
  obtain ⟨y2, hk2⟩ := hk2
  obtain ⟨ha, hb⟩ := (resolveClass_links e.toSetting hl).op (op := VmOp.resolveClass f.method.cls x.catchType) rfl
  subst e1
  rw [W.findHandler_eq hm hc, ht]
  simp only [covers] at hx
  simp [findHandler.go, hx, h0, ha, hb, hce, hv, hk1, hk2, hfit, VmOp.dirties, VmOp.acts]
theorem cy_step {p : Program} {e : Env} {T : State} {g : JFrame} {c : Code} {below : List Frame} {a : Addr} {pc1 : Nat} {v1 : Vm} (h : At T g.method c below)
    (hf : ∀ (Q : Handler → Jvm.Pre) (E : Jvm.CtlPost) (d : Bool) (acts : List Action), Sem.wp (findHandler g a) Q E e d acts ((T.setTop g).pushFrame (.throwing a)) ↔ Q (.found pc1) d acts (((T.setTop g).pushFrame (.throwing a)).setVm v1)) :
    Steps p.tables e below ((T.setTop g).pushFrame (.throwing a)) ((T.setVm v1).setTop { g with pc := pc1, stack := [.ref a] }) := by
  obtain ⟨hgo, hw⟩ := h.throwing a
  refine Steps.head hgo hw ?_
  have key : ∀ r : List Frame, (stepThrowing e ((T.setTop g).pushFrame (.throwing a)) a (.java g :: r)).1 = (((T.setTop g).pushFrame (.throwing a)).setVm v1).setFrames (.java { g with pc := pc1, stack := [.ref a] } :: r) := by
    intro r
    simp only [stepThrowing, searchFrame, vmDo]
    generalize hr : Sem.go _ e false [] ((T.setTop g).pushFrame (.throwing a)) = res
    obtain ⟨as, rfl, ha⟩ := Sem.eq_ok_of hr (a := Handler.found pc1) (s' := ((T.setTop g).pushFrame (.throwing a)).setVm v1) (acts' := []) (by simp [hf _ _ _ _])
    rfl
  rw [stepThread_throwing (frames_entered h.top _), key]
  obtain ⟨g0, hg⟩ := Option.isSome_iff_exists.mp h.top
  obtain ⟨r, hr⟩ := State.topJava?_eq_some.mp hg
  have hr1 : (T.setVm v1).frames = .java g0 :: r := hr
  have e2 : (((T.setTop g).pushFrame (.throwing a)).setVm v1).setFrames (.java { g with pc := pc1, stack := [.ref a] } :: T.frames.tail) = (T.setVm v1).setTop { g with pc := pc1, stack := [.ref a] } := by
    rw [State.setTop_of_frames _ hr1, hr, State.pushFrame, State.setTop_of_frames _ hr, State.setFrames_setFrames]
    exact State.setFrames_setFrames (T.setVm v1) _ _
  rw [e2]
  exact Steps.refl _
end CYC
section CYW
variable {p : Program} {l : Launch} {e : Env} {R : Room} {s : State} {m : MethodId} {args : Array Value} {below : List Frame} {meth : Method} {c : Code} {H : Heap} {locs : List Loc} {cells slots : Nat} {Q : State → Prop}
variable {ls : Array Slot} {rest : List Value} {pc : Nat}
theorem cy_catch {own name : String} {E : String} {ce : Cell} {q : Addr} (hown : s.vm.findClass own = some m.cls) (x : ClassFile.ExceptionTableEntry) (htb : c.exceptionTable.toList = [x])
    (hx : covers x pc = true) (h0 : x.catchType ≠ 0) (hlink : (Cond.classLink own x.catchType name).before args s = true) (hcast : (Cond.castable E name).before args s = true)
    (hcell : H[q]? = some ce) (hv : ce.vm = .none) (hcl : s.vm.findClass E = some ce.cls)
    (kk : W p l e R s m args below meth c H locs cells slots Q (F0 m x.handlerPc ls [.ref q])) : vx_W p l e R s m args below meth c H locs cells slots Q (F0 m pc ls rest) q := by
  intro T hT X
  obtain ⟨c3, c4, hc3, hc4, hasg⟩ := Cond.castable_spec hcast
  cases Option.some.inj (hc3.symm.trans hcl)
  obtain ⟨c5, hc5, hcl5⟩ := Cond.classLink_spec hown hlink e.platform (by rw [X.admits.platform])
  cases Option.some.inj (hc4.symm.trans hc5)
  obtain ⟨dk, _, _, kt, hd, _, _, _, _, hkt, _, hopen⟩ := hcl5.here
  obtain ⟨ks, hks⟩ := Vm.classAt_of_assignable hasg ⟨kt, hkt⟩
  have hW1 : s.WarmedH (T.vm.noted m.cls x.catchType (.cls c4)) := X.warmed.noted hd hopen (State.rightAt_cls hcl5)
  obtain ⟨ks1, hks1, -⟩ := hW1.alike.2.2 _ _ hks
  obtain ⟨kt1, hkt1, -⟩ := hW1.alike.2.2 _ _ hkt
  obtain ⟨t, a1, b1⟩ := kk (T.setVm (T.vm.noted m.cls x.catchType (.cls c4))) hT (X.noted hW1)
  refine ⟨t, Steps.trans (cy_step (g := F0 m pc ls rest) X.here ?_) a1, b1⟩
  exact cy_find (S := (T.setTop (F0 m pc ls rest)).pushFrame (.throwing q)) (f := F0 m pc ls rest) (mt := meth) (co := c) X.method' X.code htb hx h0 (X.warmed.classLinks hcl5) (ce := ce)
    (by rw [Stand.throwing_heap, hT]; exact hcell) hv (by rw [Stand.throwing_vm]) ⟨ks1, hks1⟩ ⟨kt1, hkt1⟩ (by rw [hW1.alike.assignable]; exact hasg)
end CYW
