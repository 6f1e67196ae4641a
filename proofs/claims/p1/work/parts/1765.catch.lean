/-! a handler whose class is resolved by the search itself -/
section CC
variable {E : CtlPost} {e : Env} {d : Bool} {acts : List Action} {s : State} {f : JFrame} {a : Addr} {Q : Handler → Pre}
theorem fh_cold {x : ExceptionTableEntry} {t : List ExceptionTableEntry} {c : ClassId} {cell : Cell} {vm' : Vm} (hx : covers x f.pc = true) (h0 : x.catchType ≠ 0)
    (hg : (Jvm.resolveClass f.method.cls x.catchType).Gives e.toSetting s.vm (.ok c) vm') (hsz : vm'.classes.size ≤ s.vm.classes.size) (hcell : s.heap[a]? = some cell) (hobj : ∀ k, cell.vm ≠ .statics k)
    (hk : ∃ k, vm'.classes[cell.cls]? = some k) (hc : ∃ k, vm'.classes[c]? = some k) :
    wp (findHandler.go f a (x :: t)) Q E e d acts s ↔
      if vm'.assignable cell.cls c = true then Q (.found x.handlerPc) d acts (s.setVm vm') else wp (findHandler.go f a t) Q E e d acts (s.setVm vm') := by
  simp only [covers] at hx
  obtain ⟨ha, ht⟩ := hg.op (op := VmOp.resolveClass f.method.cls x.catchType) rfl
  cases hfit : vm'.assignable cell.cls c <;>
    simp [findHandler.go, hx, h0, ha, ht, hsz, hcell, hobj, hk, hc, hfit, VmOp.dirties, VmOp.acts]
end CC
/-- the search ends at a handler, its tables warmer -/
def FindsC (e : Env) (s : State) (f : JFrame) (a : Addr) (pc : Nat) (vm' : Vm) : Prop :=
  ∀ (Q : Handler → Pre) (E : CtlPost) (d : Bool) (acts : List Action), wp (findHandler f a) Q E e d acts s ↔ Q (.found pc) d acts (s.setVm vm')
theorem stepThrowing_catchC {e : Env} {s : State} {a : Addr} {f : JFrame} {r : List Frame} {pc : Nat} {vm' : Vm} (hfind : FindsC e s f a pc vm') :
    (stepThrowing e s a (.java f :: r)).Is ((s.setVm vm').setFrames (.java { f with pc := pc, stack := [.ref a] } :: r)) [] := by
  simp only [stepThrowing, searchFrame, vmDo]
  generalize hr : Sem.go _ e false [] s = res
  obtain ⟨as, rfl, ha⟩ := Sem.eq_ok_of hr (a := Handler.found pc) (s' := s.setVm vm') (acts' := []) (by simp [hfind _ _ _ _])
  exact ⟨rfl, ha⟩
theorem Steps.caughtC {tb : Tables} {e : Env} {s : State} {g : JFrame} {c : Code} {below : List Frame} {a : Addr} {target : State} (h : At s g.method c below) {pc : Nat} {vm' : Vm} (hfind : FindsC e ((s.setTop g).pushFrame (.throwing a)) g a pc vm')
    (hrest : Steps tb e below ((s.setVm vm').setTop { g with pc := pc, stack := [.ref a] }) target) :
    Steps tb e below ((s.setTop g).pushFrame (.throwing a)) target := by
  obtain ⟨hgo, hw⟩ := h.throwing a
  refine Steps.head hgo hw ?_
  rw [stepThread_throwing (frames_entered h.top _), (stepThrowing_catchC (s := (s.setTop g).pushFrame (.throwing a)) hfind).1]
  obtain ⟨g₀, hg⟩ := Option.isSome_iff_exists.mp h.top
  obtain ⟨r, hr⟩ := State.topJava?_eq_some.mp hg
  have hr' : (s.setVm vm').frames = .java g₀ :: r := hr
  rw [State.setTop_of_frames _ hr'] at hrest
  have e1 : ∀ F F' : List Frame, (((s.setFrames F).setVm vm').setFrames F') = ((s.setVm vm').setFrames F').setFrames F' := by
    intro F F'
    rw [State.setFrames_setFrames]
    exact State.setFrames_setFrames (s := s.setVm vm') F F'
  rw [State.pushFrame, State.setTop_of_frames _ hr, State.setFrames_setFrames, e1, State.setFrames_setFrames, hr]
  exact hrest
section CS
variable {p : Program} {l : Launch} {e : Env} {R : Room} {s : State} {m : MethodId} {args : Array Value} {below : List Frame} {meth : Method} {c : Code} {T : State} {locs : List Loc} {cells slots : Nat}
/-- one row of the table: its class's words -/
theorem cold_row (X : Stand p l e R s m args below meth c T locs cells slots) {own name : String} {index : Nat} {cT : ClassId} {cell : Cell} (hown : s.vm.findClass own = some m.cls) (hlink : (Cond.classLink own index name).before args s = true) (hcT : s.vm.findClass name = some cT) (hks : ∃ ks, s.vm.classes[cell.cls]? = some ks) :
    ∃ vm', Stand p l e R s m args below meth c (T.setVm vm') locs cells slots ∧ (Jvm.resolveClass m.cls index).Gives e.toSetting T.vm (.ok cT) vm' ∧ vm'.classes.size ≤ T.vm.classes.size ∧ (∃ k, vm'.classes[cell.cls]? = some k) ∧ (∃ k, vm'.classes[cT]? = some k) ∧ vm'.assignable cell.cls cT = s.vm.assignable cell.cls cT := by
  have hpl : e.platform.magicAccessors = ({} : Platform).magicAccessors := by rw [X.admits.platform]
  obtain ⟨c', hc', hcl⟩ := Cond.classLink_spec hown hlink e.platform hpl
  cases hcT.symm.trans hc'
  obtain ⟨dk, _, _, kt, hd, _, _, _, _, hkt, _, hopen⟩ := hcl.here
  obtain ⟨ks, hks⟩ := hks
  have hcl₀ := X.warmed.classLinks hcl
  have hW' : s.WarmedH (T.vm.noted m.cls index (.cls cT)) := X.warmed.noted hd hopen (State.rightAt_cls hcl)
  obtain ⟨ks', hks', -⟩ := hW'.alike.2.2 _ _ hks
  obtain ⟨kt', hkt', -⟩ := hW'.alike.2.2 _ _ hkt
  refine ⟨_, X.noted hW', resolveClass_links e.toSetting hcl₀, ?_, ⟨ks', hks'⟩, ⟨kt', hkt'⟩, ?_⟩
  · no_record
  · rw [hW'.alike.assignable]
/-- caught by the table's first row -/
theorem catchC1 (X : Stand p l e R s m args below meth c T locs cells slots) {own name : String} {index : Nat} {a : Addr} {cell : Cell} {cT : ClassId} (hown : s.vm.findClass own = some m.cls) (hlink : (Cond.classLink own index name).before args s = true) (hcell : T.heap[a]? = some cell) (hobj : cell.vm.isStatics = false) (hcT : s.vm.findClass name = some cT) (hasg : s.vm.assignable cell.cls cT = true)
    {g : JFrame} (hg : g.method = m) {x : ExceptionTableEntry} {rest : List ExceptionTableEntry} (htab : c.exceptionTable.toList = x :: rest) (hx : covers x g.pc = true) (hct : x.catchType = index) (h0 : index ≠ 0) :
    ∃ vm', Stand p l e R s m args below meth c (T.setVm vm') locs cells slots ∧ ∀ target, Steps p.tables e below ((T.setVm vm').setTop { g with pc := x.handlerPc, stack := [.ref a] }) target → Steps p.tables e below ((T.setTop g).pushFrame (.throwing a)) target := by
  have hks : ∃ ks, s.vm.classes[cell.cls]? = some ks := by
    have hpl : e.platform.magicAccessors = ({} : Platform).magicAccessors := by rw [X.admits.platform]
    obtain ⟨c', hc', hcl⟩ := Cond.classLink_spec hown hlink e.platform hpl
    cases hcT.symm.trans hc'
    obtain ⟨_, _, _, kt, _, _, _, _, _, hkt, _, _⟩ := hcl.here
    exact Vm.classAt_of_assignable hasg ⟨kt, hkt⟩
  obtain ⟨vm', X', hG, hsz, k1, k2, k3⟩ := cold_row (cell := cell) X hown hlink hcT hks
  subst hg
  subst hct
  refine ⟨vm', X', fun target hrest => Steps.caughtC X.here (fun Q E d acts => ?_) hrest⟩
  have hvm := Stand.throwing_vm T g a
  rw [W.findHandler_eq (by rw [hvm]; exact X.method') X.code, htab, fh_cold hx h0 (by rw [hvm]; exact hG) (by rw [hvm]; exact hsz) (by rw [Stand.throwing_heap]; exact hcell) (VmData.noStatics_of hobj) k1 k2, if_pos (k3.trans hasg)]
/-- caught by the second, the first passed -/
theorem catchC2 (X : Stand p l e R s m args below meth c T locs cells slots) {own name name2 : String} {index index2 : Nat} {a : Addr} {cell : Cell} {cT cT2 : ClassId} (hown : s.vm.findClass own = some m.cls) (hlink : (Cond.classLink own index name).before args s = true) (hlink2 : (Cond.classLink own index2 name2).before args s = true) (hcell : T.heap[a]? = some cell) (hobj : cell.vm.isStatics = false) (hcT : s.vm.findClass name = some cT) (hno : s.vm.assignable cell.cls cT = false) (hcT2 : s.vm.findClass name2 = some cT2) (hasg : s.vm.assignable cell.cls cT2 = true)
    {g : JFrame} (hg : g.method = m) {x x2 : ExceptionTableEntry} {rest : List ExceptionTableEntry} (htab : c.exceptionTable.toList = x :: x2 :: rest) (hx : covers x g.pc = true) (hct : x.catchType = index) (h0 : index ≠ 0) (hx2 : covers x2 g.pc = true) (hct2 : x2.catchType = index2) (h02 : index2 ≠ 0) :
    ∃ vm', Stand p l e R s m args below meth c (T.setVm vm') locs cells slots ∧ ∀ target, Steps p.tables e below ((T.setVm vm').setTop { g with pc := x2.handlerPc, stack := [.ref a] }) target → Steps p.tables e below ((T.setTop g).pushFrame (.throwing a)) target := by
  have hks : ∃ ks, s.vm.classes[cell.cls]? = some ks := by
    have hpl : e.platform.magicAccessors = ({} : Platform).magicAccessors := by rw [X.admits.platform]
    obtain ⟨c', hc', hcl⟩ := Cond.classLink_spec hown hlink2 e.platform hpl
    cases hcT2.symm.trans hc'
    obtain ⟨_, _, _, kt, _, _, _, _, _, hkt, _, _⟩ := hcl.here
    exact Vm.classAt_of_assignable hasg ⟨kt, hkt⟩
  obtain ⟨vm1, X1, hG, hsz, k1, k2, k3⟩ := cold_row (cell := cell) X hown hlink hcT hks
  obtain ⟨vm2, X2, hG2, hsz2, q1, q2, q3⟩ := cold_row (cell := cell) X1 hown hlink2 hcT2 hks
  subst hg
  subst hct
  subst hct2
  refine ⟨vm2, X2, fun target hrest => Steps.caughtC (vm' := vm2) X.here (fun Q E d acts => ?_) hrest⟩
  have hvm := Stand.throwing_vm T g a
  rw [W.findHandler_eq (by rw [hvm]; exact X.method') X.code, htab, fh_cold hx h0 (by rw [hvm]; exact hG) (by rw [hvm]; exact hsz) (by rw [Stand.throwing_heap]; exact hcell) (VmData.noStatics_of hobj) k1 k2, if_neg (by rw [k3, hno]; decide),
    fh_cold (s := ((T.setTop g).pushFrame (.throwing a)).setVm vm1) hx2 h02 hG2 hsz2 (by show ((T.setTop g).pushFrame (.throwing a)).heap[a]? = _; rw [Stand.throwing_heap]; exact hcell) (VmData.noStatics_of hobj) q1 q2, if_pos (q3.trans hasg)]
  exact Iff.rfl
end CS
