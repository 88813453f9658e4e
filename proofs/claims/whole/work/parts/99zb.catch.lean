/-! THROWN: caught; rests of the law -/
theorem stepThrowing_cold {e : Env} {s : State} {a : Addr} {f : JFrame} {r : List Frame} {pc : Nat} {vm' : Vm} (hfind : ∀ (Q : Handler → Pre) (E : CtlPost) (d : Bool) (acts : List Action), wp (findHandler f a) Q E e d acts s ↔ Q (.found pc) d acts (s.setVm vm')) :
    (stepThrowing e s a (.java f :: r)).Is ((s.setVm vm').setFrames (.java { f with pc := pc, stack := [.ref a] } :: r)) [] := by
  simp only [stepThrowing, searchFrame, vmDo]
  generalize hr : Sem.go _ e false [] s = res
  obtain ⟨as, rfl, ha⟩ := Sem.eq_ok_of hr (a := Handler.found pc) (s' := s.setVm vm') (acts' := []) (by simp [hfind _ _ _ _])
  exact ⟨rfl, ha⟩
section ZC
variable {p : Program} {l : Launch} {e : Env} {R : Room} {s : State} {m : MethodId} {args : Array Value} {below : List Frame} {meth : Method} {c : Code} {T : State} {locs : List Loc} {cells slots : Nat}
/-- the law catches it, whether or not it has named its class before -/
theorem z_catch (X : Stand p l e R s m args below meth c T locs cells slots) {g : JFrame} (hg : g.method = m) (hpc : g.pc = 7) {a : Addr} {ce : Cell} (hcell : T.heap[a]? = some ce) (hvm : ce.vm = .none) (hcl : s.vm.findClass nsN = some ce.cls) (hown : s.vm.findClass "TaxFarmLaw" = some m.cls) (hlink : (Cond.classLink "TaxFarmLaw" 13 nsN).before args s = true)
    (htab : c.exceptionTable.toList.map (fun h => (h.startPc, h.endPc, h.handlerPc, h.catchType)) = [(0, 12, 15, 13)]) : ∃ vm' : Vm, Stand p l e R s m args below meth c (T.setVm vm') locs cells slots ∧ ∀ target, Steps p.tables e below ((T.setVm vm').setTop { g with pc := 15, stack := [.ref a] }) target → Steps p.tables e below ((T.setTop g).pushFrame (.throwing a)) target := by
  subst hg
  have hpl : e.platform.magicAccessors = ({} : Platform).magicAccessors := by rw [X.admits.platform]
  obtain ⟨cN, hfc, hcl'⟩ := Cond.classLink_spec hown hlink e.platform hpl
  cases hcl.symm.trans hfc
  obtain ⟨hg₁, hwarm₁, hready₁⟩ := State.classEntry (e := e) X.warmed hcl'
  have hsz : (T.vm.noted g.method.cls 13 (.cls ce.cls)).classes.size ≤ T.vm.classes.size := by simp [Vm.noted]
  generalize T.vm.noted g.method.cls 13 (.cls ce.cls) = vm₁ at hg₁ hwarm₁ hready₁ hsz
  refine ⟨vm₁, X.noted hwarm₁, fun target hrest => ?_⟩
  obtain ⟨x0, hx0, hx1⟩ : ∃ x : ExceptionTableEntry, c.exceptionTable.toList = [x] ∧ (x.startPc, x.endPc, x.handlerPc, x.catchType) = (0, 12, 15, 13) := by
    cases hL : c.exceptionTable.toList with
    | nil => rw [hL] at htab; cases htab
    | cons x t =>
      cases t with
      | nil => rw [hL] at htab; exact ⟨x, rfl, List.head_eq_of_cons_eq htab⟩
      | cons y t => rw [hL] at htab; exact absurd (congrArg List.length htab) (by simp)
  obtain ⟨sp, ep, hp, ct⟩ := x0
  cases hx1
  have hkN : ∃ k, vm₁.classes[ce.cls]? = some k := Vm.classAt_of_findClass (by rw [hwarm₁.alike.findClass]; exact hcl)
  have hasg₁ : vm₁.assignable ce.cls ce.cls = true := va_asg _ _
  have hmC : ((T.setTop g).pushFrame (.throwing a)).vm.method? g.method = some meth := by
    show T.vm.method? g.method = some meth
    exact X.method'
  have hfind : ∀ (Q : Handler → Pre) (E : CtlPost) (d : Bool) (acts : List Action), wp (findHandler g a) Q E e d acts ((T.setTop g).pushFrame (.throwing a)) ↔ Q (.found 15) d acts (((T.setTop g).pushFrame (.throwing a)).setVm vm₁) := by
    intro Q E d acts
    rw [Jvm.W.findHandler_eq hmC X.code, hx0]
    obtain ⟨ha, ht⟩ := hg₁.op (op := VmOp.resolveClass g.method.cls 13) rfl
    have hobj : ∀ k, ce.vm ≠ .statics k := fun k => by rw [hvm]; simp
    obtain ⟨S, hSv, hSh, hS⟩ : ∃ S : State, S.vm = T.vm ∧ S.heap = T.heap ∧ (T.setTop g).pushFrame (.throwing a) = S := ⟨(T.setTop g).pushFrame (.throwing a), rfl, rfl, rfl⟩
    rw [hS]
    rw [← hSv] at ha ht hsz
    rw [← hSh] at hcell
    have hld : VmOp.lands (VmOp.resolveClass g.method.cls 13) e S = .done (S.setVm vm₁) := VmOp.lands_eq ht hsz
    simp [findHandler.go, hpc, hld, ha, hcell, hobj, hkN, hasg₁, VmOp.dirties, VmOp.acts]
  obtain ⟨hgo, hw⟩ := X.here.throwing a
  refine Steps.head hgo hw ?_
  rw [stepThread_throwing (frames_entered X.here.top _), (stepThrowing_cold (s := (T.setTop g).pushFrame (.throwing a)) hfind).1]
  obtain ⟨g₀, hg0⟩ := Option.isSome_iff_exists.mp X.here.top
  obtain ⟨r, hr⟩ := State.topJava?_eq_some.mp hg0
  have hr' : (T.setVm vm₁).frames = .java g₀ :: r := hr
  rw [State.setTop_of_frames _ hr'] at hrest
  have e1 : (((T.setTop g).pushFrame (.throwing a)).setVm vm₁).setFrames (.java { g with pc := 15, stack := [.ref a] } :: T.frames.tail) = (T.setVm vm₁).setFrames (.java { g with pc := 15, stack := [.ref a] } :: r) := by
    rw [State.pushFrame, State.setTop_of_frames _ hr, State.setFrames_setFrames]
    show ((T.setFrames _).setVm vm₁).setFrames _ = _
    rw [hr]
    show ((T.setVm vm₁).setFrames _).setFrames _ = _
    rw [State.setFrames_setFrames]
    rfl
  rw [e1]
  exact hrest
end ZC
