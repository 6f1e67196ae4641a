/-! 'throw new E()' -/
theorem sbn_F {A : Nat → Prop} {s t : State} {locs : List Loc} {k n : Nat} (h : s.sameButNew ({ t with vm := s.vm } : State) locs k n) (hA : ∀ q ∈ locs, A q.base) : va_F A s t := by
  obtain ⟨h1, h2, h3, h4, h5, h6⟩ := h
  refine ⟨h2, fun q hq hn => ?_⟩
  obtain ⟨cell, hc⟩ : ∃ cell, s.heap[q]? = some cell := ⟨s.heap[q], Array.getElem?_eq_getElem hq⟩
  obtain ⟨c', g1, g2, g3, g4⟩ := h6 q cell hc
  have g1 : t.heap[q]? = some c' := g1
  rw [g1, hc]
  have hs : c'.slots = cell.slots := by
    apply Array.ext_getElem?
    intro i
    exact g4 i (fun hm => hn (hA _ hm))
  rw [g2, hs]
section XTN
variable {p : Program} {l : Launch} {e : Env} {R : Room} {s : State} {m : MethodId} {args : Array Value} {below : List Frame} {meth : Method} {c : Code} {H : Heap} {locs : List Loc} {cells slots : Nat}
/-- what is known behind a throw: the exception's cell and class; nothing else of the old heap has changed -/
def QtE (A : Nat → Prop) (cls : String) : Array Value → State → Addr → State → Prop := fun _ s x t => (∃ ce : Cell, t.heap[x]? = some ce ∧ t.vm.findClass cls = some ce.cls ∧ ce.vm = .none) ∧ s.heap.size ≤ x ∧ va_F A s t
theorem throwNew {cc : ByteArray} {pc ia ic : Nat} {own cls : String} {names : List String} {A : Nat → Prop} {ls : Array Slot} {st : List Value} (hx : p.tables.exec = Jvm.exec) (hb : c.code = cc) (htr : e.platform.stackTraces = false) (hlocks : meth.locks = false) (hml : c.maxLocals = ls.size) (hown : s.vm.findClass own = some m.cls) (hcls : Bundle.fit cls = true) (hnames : ∀ n ∈ names, Bundle.fit n = true)
    (h : ∀ a ∈ Bundle.ownAtoms0 own ic cls names, a.before args s = true) (hcl : (Cond.classLink own ia cls).before args s = true) (hini : (Cond.initialized cls).before args s = true) (hlocs : ∀ x ∈ locs, ∀ cell, s.heap[x.base]? = some cell → cell.vm.isStatics = false) (hA : ∀ q ∈ locs, A q.base) (hS : s.heap.size ≤ H.size)
    (d0 : decode cc pc = .ok (.new ia, 3)) (d3 : decode cc (pc + 3) = .ok (.dup, 1)) (d4 : decode cc (pc + 4) = .ok (.invokespecial ic, 3)) (d7 : decode cc (pc + 7) = .ok (.athrow, 1)) (hout : ∀ x ∈ c.exceptionTable.toList, covers x (pc + 7) = false)
    (hcap : cells + 1 ≤ R.cells ∧ slots + 6 ≤ R.slots) (hRf : names.length + 3 < R.frames) (hRl : (st.map fun v => v.category).sum + 1 + (13 * (names.length + 1) + 41) ≤ R.locals) :
    W p l e R s m args below meth c H locs cells slots (MQT below (QtE A cls) args s (cells + 1) (slots + 6) A) (F0 m pc ls st) := by
  have hins : (Cond.instantiable cls 6).before args s = true := h _ (by simp [Bundle.ownAtoms0])
  obtain ⟨cC, kC0, hfc, -⟩ := Cond.instantiable_spec hins
  refine W.newcK (g := F0 m pc ls st) hx hb hown hcl hins hini rfl d0 hcap.1 hcap.2 hfc rfl (fun H' kC hkC e1 z1 o1 => ?_)
  refine W.eq (g2 := F0 m (pc + 3) ls (.ref H.size :: st)) rfl ?_
  refine lv_dup hx hb d3 rfl ?_
  intro T hT X
  obtain ⟨U, hsteps, hrun, hend, hW, hsame, ce, hce, K⟩ := X.ctorThrow0 hx htr (own := own) (cls := cls) (names := names) (ic := ic) hown hcls hnames h hlocs hfc hkC (by rw [hT]; exact e1) hS
    (g := F0 m (pc + 3 + 1) ls (.ref H.size :: .ref H.size :: st)) rfl (by rw [hml]) rfl rfl (rest := st) rfl (by rw [hb]; exact d4) (by rw [hb]; exact d7) hout hRf (by
      have h0 : (F0 m (pc + 3 + 1) ls (.ref H.size :: .ref H.size :: st)).monitorRoom = 0 := rfl
      rw [h0, List.map_cons, List.sum_cons]
      have h1 : (Value.ref H.size).category = 1 := rfl
      rw [h1]
      omega) hlocks
  exact ⟨U, hsteps, H.size, hrun, hend, ⟨⟨ce, hce, by rw [hW.alike.findClass]; exact K.cls, K.vm⟩, hS, sbn_F hsame hA⟩, locs, ⟨⟨_, rfl⟩, hW, hsame⟩, hA⟩
end XTN
