/-! the relation's ends are the machine's: returns and throws -/
/-- a static that holds v, in a cell that nobody writes -/
def va_ZL (C n d : String) (v : Value) (A : Nat → Prop) (U : State) (H : Heap) : Prop := ∃ (c : ClassId) (k : Class) (i : Nat) (f : Field) (a : Nat) (cell : Cell), U.vm.findClass C = some c ∧ U.fieldFound? C n d = some (c, k, i, f) ∧ f.isStatic = true ∧ k.statics = some a ∧ H[a]? = some cell ∧ cell.vm.isStatics = true ∧ cell.cls = c ∧ f.slot < cell.slots.size ∧ k.staticTypes[f.slot]? = some f.type ∧ cell.slots[f.slot]? = some v ∧ ¬ A a
theorem va_ZL.moved {C n d : String} {v : Value} {A : Nat → Prop} {u U : State} {H : Heap} (hvm : u.vm.Alike U.vm) (h : va_ZL C n d v A u H) : va_ZL C n d v A U H := by
  obtain ⟨c, k, i, f, a, cell, h0, h1, h2, h3, h4, h5, h6, h7, h8, h9⟩ := h
  obtain ⟨k', hi', he⟩ := State.fieldFound?_setVm hvm h1
  exact ⟨c, k', i, f, a, cell, by rw [hvm.findClass]; exact h0, hi', h2, by rw [he]; exact h3, h4, h5, h6, h7, by rw [he]; exact h8, h9⟩
theorem va_ZL.kept {C n d : String} {v : Value} {A : Nat → Prop} {U : State} {H H1 : Heap} (h : va_ZL C n d v A U H) (hq : ∀ a : Nat, a < H.size → ¬ A a → H1[a]? = H[a]?) : va_ZL C n d v A U H1 := by
  obtain ⟨c, k, i, f, a, cell, h0, h1, h2, h3, h4, h5, h6, h7, h8, h9, h10⟩ := h
  exact ⟨c, k, i, f, a, cell, h0, h1, h2, h3, by rw [hq a (Array.getElem?_eq_some_iff.mp h4).1 h10]; exact h4, h5, h6, h7, h8, h9, h10⟩
theorem va_ZL.narrow {C n d : String} {v : Value} {A B : Nat → Prop} {U : State} {H : Heap} (h : va_ZL C n d v A U H) (hAB : ∀ q, B q → A q) : va_ZL C n d v B U H := by
  obtain ⟨c, k, i, f, a, cell, h0, h1, h2, h3, h4, h5, h6, h7, h8, h9, h10⟩ := h
  exact ⟨c, k, i, f, a, cell, h0, h1, h2, h3, h4, h5, h6, h7, h8, h9, fun z => h10 (hAB a z)⟩
theorem va_ZL.of {args : Array Value} {s : State} {C n d : String} {A : Nat → Prop} (hl : (Cond.laysStatic C n d).before args s = true) (hv : (Cond.isRef (.static C n d)).before args s = true) (hA : ∀ a : Nat, a < s.heap.size → ¬ A a) : ∃ u : RefV, va_ZL C n d u.v A s s.heap := by
  obtain ⟨c, k, i, f, a, cell, hc, hi, hst, ha, hcell, hs, hcls, hlt, hty⟩ := Cond.laysStatic_spec hl
  obtain ⟨u, hu⟩ := Cond.staticRefV hi hst ha hcell hs hv
  exact ⟨u, c, k, i, f, a, cell, hc, hi, hst, ha, hcell, hs, hcls, hlt, hty, hu, hA a (Array.getElem?_eq_some_iff.mp hcell).1⟩
theorem va_ZL.lays {C n d : String} {v : Value} {A : Nat → Prop} {s : State} {args : Array Value} (h : va_ZL C n d v A s s.heap) : (Cond.laysStatic C n d).before args s = true := by
  obtain ⟨c, k, i, f, a, cell, h0, h1, h2, h3, h4, h5, h6, h7, h8, h9, h10⟩ := h
  simp [Cond.before, Cond.holds, Cond.value, h0, h1, h2, h3, h4, h5, h6, h7, h8]
theorem va_ZL.ref {C n d : String} {u : RefV} {A : Nat → Prop} {s : State} {args : Array Value} (h : va_ZL C n d u.v A s s.heap) : (Cond.isRef (.static C n d)).before args s = true := by
  obtain ⟨c, k, i, f, a, cell, h0, h1, h2, h3, h4, h5, h6, h7, h8, h9, h10⟩ := h
  have he : (Term.static C n d).eval args s none [] s = some u.v := by
    simp [Term.eval, State.fieldNamed?, h1, h2, h3, h4, h5, h9]
  obtain ⟨v, hv⟩ := u
  simp only [Cond.before, Cond.holds, Cond.value]
  rw [he]
  cases v <;> first | rfl | exact absurd (show false = true from hv) (by decide)
/-- Throwable's two statics hold references, in cells that nobody writes -/
def thV : List Cond := [.declares (Bundle.init0 "java/lang/RuntimeException"), .declares (Bundle.init0 "java/lang/Exception"), .declares (Bundle.init0 Bundle.tN), .castable "java/lang/IllegalArgumentException" "java/lang/IllegalArgumentException", .castable "java/lang/ArithmeticException" "java/lang/ArithmeticException"]
theorem thV_ok : ∀ w ∈ thV, w.onTables = true ∧ w.keepsFace = true := by
  intro w hw
  simp only [thV, List.mem_cons, List.not_mem_nil, or_false] at hw
  rcases hw with rfl | rfl | rfl | rfl | rfl <;> exact ⟨rfl, rfl⟩
theorem thV_warm {s U : State} (hW : s.WarmedH U.vm) {a a' : Array Value} {w : Cond} (hw : w ∈ thV) (h : w.before a s = true) : w.before a' U = true := by
  have h1 := Cond.before_shiftedFace (State.Shifted.of_warmed hW) w (thV_ok w hw).2 h
  have h2 := Cond.onTables_vm (A := a') (A' := a) (U := U) (U' := s) U.vm w (thV_ok w hw).1
  exact h2.trans h1
theorem thV_same {s U : State} (hv : U.vm = s.vm) {a a' : Array Value} {w : Cond} (hw : w ∈ thV) (h : w.before a s = true) : w.before a' U = true := by
  have h2 := Cond.onTables_vm (A := a') (A' := a) (U := U) (U' := s) s.vm w (thV_ok w hw).1
  have e : U.setVm s.vm = U := by rw [← hv]; rfl
  have e2 : s.setVm s.vm = s := rfl
  rw [e, e2] at h2
  exact h2.trans h
def thS (A : Nat → Prop) (U : State) : Prop := (∀ w ∈ thV, w.before #[] U = true) ∧ ∃ u1 u2 : RefV, va_ZL Bundle.tN "UNASSIGNED_STACK" Bundle.steD u1.v A U U.heap ∧ va_ZL Bundle.tN "SUPPRESSED_SENTINEL" Bundle.listD u2.v A U U.heap
def thW : List Cond := [.isRef (.static Bundle.tN "UNASSIGNED_STACK" Bundle.steD), .isRef (.static Bundle.tN "SUPPRESSED_SENTINEL" Bundle.listD), .laysStatic Bundle.tN "UNASSIGNED_STACK" Bundle.steD, .laysStatic Bundle.tN "SUPPRESSED_SENTINEL" Bundle.listD] ++ thV
theorem thS_w {A : Nat → Prop} {s : State} {args : Array Value} (h : thS A s) : ∀ w ∈ thW, w.before args s = true := by
  obtain ⟨z0, u1, u2, z1, z2⟩ := h
  intro w hw
  unfold thW at hw
  rcases List.mem_append.mp hw with hw | hw
  · simp only [List.mem_cons, List.not_mem_nil, or_false] at hw
    rcases hw with rfl | rfl | rfl | rfl
    · exact z1.ref
    · exact z2.ref
    · exact z1.lays
    · exact z2.lays
  · exact thV_same rfl hw (z0 w hw)
theorem thS_call {A A1 : Nat → Prop} {s U : State} {H : Heap} {locs : List Loc} (h : thS A s) (hS : va_S A s.heap H locs) (hA1 : ∀ q, A1 q → A q) (hU : U.heap = H) (hW : s.WarmedH U.vm) : thS A1 U := by
  obtain ⟨z0, u1, u2, z1, z2⟩ := h
  refine ⟨fun w hw => thV_warm hW hw (z0 w hw), u1, u2, ?_, ?_⟩
  · rw [hU]; exact ((va_ZL.moved hW.alike z1).kept (fun a h1 h2 => hS.2.1 a h1 h2)).narrow hA1
  · rw [hU]; exact ((va_ZL.moved hW.alike z2).kept (fun a h1 h2 => hS.2.1 a h1 h2)).narrow hA1
/-- cells of the world aren't cells of statics -/
theorem va_ns {D : va_G} {cl : List vw_C} {ws : va_W} {H : Heap} (hP : va_P D cl ws H) {q : Nat} {cell : Cell} (hq : va_A ws H.size q) (hc : H[q]? = some cell) : cell.vm.isStatics = false := by
  rcases hq with ⟨k, e, hk⟩ | hq
  · have h := hP k _ hk
    unfold va_at at h
    cases e with
    | inl a =>
      have h : H[q]? = some (vp_cell a.1 a.2) := h
      rw [hc] at h
      cases h
      unfold vp_cell
      split <;> rfl
    | inr o =>
      obtain ⟨r, -, cell', g1, g2, g3, -⟩ := h
      have g1 : H[q]? = some cell' := g1
      rw [hc] at g1
      cases g1
      rw [g3]
      rfl
  · have := (Array.getElem?_eq_some_iff.mp hc).1
    omega
def xPre2 (D : va_G) (cl : List vw_C) (N : xN) (tys : List (ClassId × FieldType)) (ws : va_W) (sz : Nat) : State → Prop := fun U => xPre D cl N tys ws sz U ∧ thS (va_A ws sz) U
theorem FB2 {D : va_G} {cl : List vw_C} {N : xN} {tys : List (ClassId × FieldType)} {ws : va_W} {sz : Nat} {cvs : List Value} : FrameBlind (va_Pc cvs (xPre2 D cl N tys ws sz)) := fun a U g mk q => by
  obtain ⟨q0, ⟨q1, qP, qK, qD, qN⟩, z0, u1, u2, z1, z2⟩ := q
  exact ⟨q0, ⟨q1, qP, va_K.moved (u := U) (U := U.calling g mk a) (Vm.Alike.refl U.vm) qK, qD, nx_same (s := U) (U := U.calling g mk a) rfl qN⟩, fun w hw => thV_same (s := U) (U := U.calling g mk a) rfl hw (z0 w hw), u1, u2, va_ZL.moved (u := U) (U := U.calling g mk a) (Vm.Alike.refl U.vm) z1, va_ZL.moved (u := U) (U := U.calling g mk a) (Vm.Alike.refl U.vm) z2⟩
/-- the throws of the tables -/
def okT (B : xTab) (TB : List Cond) (TH : xTh) : Prop := ∀ mi pc ia ic k, TH mi pc = some (ia, ic, k) → ∃ names : List String, names.length ≤ 3 ∧ Bundle.fit k = true ∧ (∀ n ∈ names, Bundle.fit n = true) ∧
  (∀ a ∈ Bundle.ownAtoms0 (B.1 mi).cls ic k names, a ∈ TB ∨ a ∈ thW) ∧ Cond.classLink (B.1 mi).cls ia k ∈ TB ∧ Cond.initialized k ∈ TB
def MQX (below : List Frame) (D : va_G) (cl : List vw_C) (A : Nat → Prop) (as0 : List Nat) (r : yR) (args : Array Value) (s : State) : State → Prop := match r with
  | (.inl v, h, c, n) => MQ below (xPost D cl A as0 (v, h, c, n)) args s c n A
  | (.inr k, _, c, n) => MQT below (QtE A k) args s c n A
def ctx2 (X : xProg) (B : xTab) (TB : List Cond) (N : xN) (p : Program) (e : Env) (s : State) (m : MethodId) (args : Array Value) (meth : Method) (c : Code) (mi : Nat) : Prop := ctx X B TB N p s m args meth c mi ∧ e.platform.stackTraces = false ∧ c.exceptionTable.isEmpty = true
def Snd2 (X : xProg) (B : xTab) (TB : List Cond) (cl : List vw_C) (N : xN) (V : Nat → Prop) (TH : xTh) (l : Launch) (n : Nat) : Prop :=
  ∀ (fb lb mi pc : Nat) (lv : xL) (st : List Value) (h : xH) (c0 s0 : Nat) (r : yR), Rn X B.1 B.2.1 TH n fb lb mi pc lv st h c0 s0 r → V mi →
  ∀ (p : Program) (e : Env) (R : Room) (s : State) (m : MethodId) (args : Array Value) (below : List Frame) (meth : Method) (c : Code), ctx2 X B TB N p e s m args meth c mi → fb ≤ R.frames → lb ≤ R.locals → r.2.2.1 ≤ R.cells → r.2.2.2 ≤ R.slots →
  ∀ (D : va_G) (A : Nat → Prop) (as0 as : List Nat) (tys : List (ClassId × FieldType)) (ws : va_W) (H : Heap) (locs : List Loc) (ls : Array Slot) (clv : xL) (cst : List Value), pre as0 as → lv_has ls (xml X mi) clv → lrs as lv clv → vrs as st cst → sg D cl A s h as tys ws H locs →
  thS A s → (∀ q, A q → ∀ cell, s.heap[q]? = some cell → cell.vm.isStatics = false) →
  W p l e R s m args below meth c H locs c0 s0 (MQX below D cl A as0 r args s) (F0 m pc ls cst)
set_option maxHeartbeats 4000000 in
theorem met_of2 {X : xProg} {B : xTab} {TB : List Cond} {cl : List vw_C} {N : xN} {V : Nat → Prop} {TH : xTh} {l : Launch} {n : Nat} (hl0 : ∀ e : Env, l.admits e → e.platform.stackTraces = false) (ih : Snd2 X B TB cl N V TH l n) (oP : okP X B TB cl N V) {fb lb mj : Nat} {avs cvs : List Value} {h h1 : xH} {v : Option Value} {c1 s1 : Nat} (hr : Rn X B.1 B.2.1 TH n fb lb mj 0 (lv_args 0 avs) [] h 0 0 (.inl v, h1, c1, s1)) (hV : V mj) (hsl : (lg_sl avs).length ≤ xml X mj)
    {D : va_G} {as : List Nat} {tys : List (ClassId × FieldType)} {ws : va_W} {sz : Nat} (hw : wr as tys h ws) (ha : vrs as avs cvs) :
    Met l (B.1 mj) (xws X B TB mj) { frames := fb, cells := c1, slots := s1, locals := lb } (va_Pc cvs (xPre2 D cl N tys ws sz)) (xPost D cl (va_A ws sz) as (v, h1, c1, s1)) c1 s1 (va_A ws sz) := by
  obtain ⟨m1, m2, m3, m4, m5⟩ := oP.2.2 mj hV
  refine Met.ofW (cc := B.2.2 mj) (maxL := xml X mj) (ret := xrt X mj) m1 rfl ?_
  intro p e s m args below meth c s₁ b hml hv
  obtain ⟨rfl, ⟨hsz, hP, hK, hD0, hN⟩, hT⟩ := hv
  have hts := atoms_spec (ws := xws X B TB mj) b.pre
  subst hsz
  have hl := lv_entry cvs (n := xml X mj) (by rw [vrs_sl ha]; exact hsl)
  rw [lg_entry_eq]
  have hex : c.exceptionTable.isEmpty = true := by
    obtain ⟨meth', c', hm', hc', -, -, -, -, he', -⟩ := Cond.code_spec b.named (hts _ List.mem_cons_self)
    cases b.method.symm.trans hm'
    cases (Stand.of_body b).code.symm.trans hc'
    exact he'
  exact ih fb lb mj 0 _ _ h 0 0 _ hr hV p e _ s m _ below meth c ⟨⟨b.exec, b.bytes, b.returns, b.notSynchronized, hml, findClass_of_methodNamed b.named, (name_of_methodNamed b.named b.method).1, fun w hw => hts w (List.mem_cons_of_mem _ hw), hN⟩, hl0 e b.admits, hex⟩ (Nat.le_refl _) (Nat.le_refl _) (Nat.le_refl _) (Nat.le_refl _) D (va_A ws s.heap.size) as as tys ws s.heap [] _ _ _ pre_rf hl (lrs_args 0 ha) rfl ⟨hw, hK, hP, hD0.self, va_S.rf, fun q h => Or.inr h⟩ hT (fun q hq cell hc => va_ns hP hq hc)
set_option maxHeartbeats 4000000 in
theorem met_of2T {X : xProg} {B : xTab} {TB : List Cond} {cl : List vw_C} {N : xN} {V : Nat → Prop} {TH : xTh} {l : Launch} {n : Nat} (hl0 : ∀ e : Env, l.admits e → e.platform.stackTraces = false) (ih : Snd2 X B TB cl N V TH l n) (oP : okP X B TB cl N V) {fb lb mj : Nat} {avs cvs : List Value} {h h1 : xH} {k : String} {c1 s1 : Nat} (hr : Rn X B.1 B.2.1 TH n fb lb mj 0 (lv_args 0 avs) [] h 0 0 (.inr k, h1, c1, s1)) (hV : V mj) (hsl : (lg_sl avs).length ≤ xml X mj)
    {D : va_G} {as : List Nat} {tys : List (ClassId × FieldType)} {ws : va_W} {sz : Nat} (hw : wr as tys h ws) (ha : vrs as avs cvs) :
    MetT l (B.1 mj) (xws X B TB mj) { frames := fb, cells := c1, slots := s1, locals := lb } (va_Pc cvs (xPre2 D cl N tys ws sz)) (QtE (va_A ws sz) k) c1 s1 (va_A ws sz) := by
  obtain ⟨m1, m2, m3, m4, m5⟩ := oP.2.2 mj hV
  refine MetT.ofW (cc := B.2.2 mj) (maxL := xml X mj) (ret := xrt X mj) m1 rfl ?_
  intro p e s m args below meth c s₁ b hml hv
  obtain ⟨rfl, ⟨hsz, hP, hK, hD0, hN⟩, hT⟩ := hv
  have hts := atoms_spec (ws := xws X B TB mj) b.pre
  subst hsz
  have hl := lv_entry cvs (n := xml X mj) (by rw [vrs_sl ha]; exact hsl)
  rw [lg_entry_eq]
  have hex : c.exceptionTable.isEmpty = true := by
    obtain ⟨meth', c', hm', hc', -, -, -, -, he', -⟩ := Cond.code_spec b.named (hts _ List.mem_cons_self)
    cases b.method.symm.trans hm'
    cases (Stand.of_body b).code.symm.trans hc'
    exact he'
  exact ih fb lb mj 0 _ _ h 0 0 _ hr hV p e _ s m _ below meth c ⟨⟨b.exec, b.bytes, b.returns, b.notSynchronized, hml, findClass_of_methodNamed b.named, (name_of_methodNamed b.named b.method).1, fun w hw => hts w (List.mem_cons_of_mem _ hw), hN⟩, hl0 e b.admits, hex⟩ (Nat.le_refl _) (Nat.le_refl _) (Nat.le_refl _) (Nat.le_refl _) D (va_A ws s.heap.size) as as tys ws s.heap [] _ _ _ pre_rf hl (lrs_args 0 ha) rfl ⟨hw, hK, hP, hD0.self, va_S.rf, fun q h => Or.inr h⟩ hT (fun q hq cell hc => va_ns hP hq hc)
set_option maxHeartbeats 8000000 in
theorem rn_snd {X : xProg} {B : xTab} {TB : List Cond} {cl : List vw_C} {N : xN} {V : Nat → Prop} {TH : xTh} {l : Launch} (hl0 : ∀ e : Env, l.admits e → e.platform.stackTraces = false) (oP : okP X B TB cl N V) (oT : okT B TB TH) : ∀ n, Snd2 X B TB cl N V TH l n := by
  intro n
  induction n with
  | zero => intro fb lb mi pc lv st h c0 s0 r hr; exact hr.elim
  | succ n ih =>
    intro fb lb mi pc lv st h c0 s0 r hr hV p e R s m args below meth c C hfb hlb hcells hslots D A as0 as tys ws H locs ls clv cst hpre hl hlr hst G hTs hAs
    obtain ⟨m1, m2, m3, m4, m5⟩ := oP.2.2 mi hV
    obtain ⟨⟨hx, hb, hret, hlocks, hml, hown, hnm, hts, hN⟩, htr, hex⟩ := id C
    obtain ⟨i, hd, hr⟩ := hr
    have hdc := m2.1 pc i hd
    have hout : ∀ pc', ∀ x ∈ c.exceptionTable.toList, covers x pc' = false := fun pc' x hx => by
      rw [Array.isEmpty_iff.mp hex] at hx
      cases hx
    have fin : ∀ (v cv : Option Value) (cc0 ss0 : Nat), ovr as v cv → ∀ t : State, t.heap = H → s.WarmedH t.vm → xPost D cl A as0 (v, h, cc0, ss0) args s (.returned cv) t := fun v cv cc0 ss0 h1 t ht hW => ⟨⟨cv, as, tys, ws, rfl, hpre, h1, G.1, va_K.moved hW.alike G.2.1, by rw [ht]; exact G.2.2.1, G.2.2.2.1⟩, G.2.2.2.2.1.F ht⟩
    -- a call that returns
    have call : ∀ {idx q mj : Nat} {rest crest avs cvs : List Value} {vt : Prop}, xinv X mi idx = some (some mj, q) → y_go X (Rn X B.1 B.2.1 TH n) fb lb mi pc lv rest h c0 s0 mj avs vt r → vrs as avs cvs → vrs as rest crest →
        (∀ (ws0 : va_W) (rm : Room) (mc ms : Nat) (Qc : Array Value → State → Outcome → State → Prop) (free : Addr → Prop), va_P D cl ws0 H → va_D (fun _ => True) ws0 → (∀ q, va_A ws0 H.size q → A q) → Met l (B.1 mj) (xws X B TB mj) rm (va_Pc cvs (xPre2 D cl N tys ws0 H.size)) Qc mc ms free → rm.cells = mc → rm.slots = ms → rm.frames + 1 ≤ R.frames ∧ 8 + (xml X mj + 11) + rm.locals ≤ R.locals → c0 + mc ≤ R.cells ∧ s0 + ms ≤ R.slots → 2 * (F0 m pc ls cst).monitorRoom + (crest.map fun v => v.category).sum ≤ 8 → va_Run p l e R s m args below meth c H locs c0 s0 mc ms (F0 m pc ls cst) crest (Qc cvs.toArray) free) →
        (∀ (k : String) (h1 : xH) (c1 s1 : Nat), vt → 1 ≤ fb → 19 + xml X mj ≤ lb → x_sum rest ≤ 8 → (lg_sl avs).length ≤ xml X mj → Rn X B.1 B.2.1 TH n (fb - 1) (lb - (19 + xml X mj)) mj 0 (lv_args 0 avs) [] h 0 0 (.inr k, h1, c1, s1) → r = (.inr k, h1, c0 + c1, s0 + s1) → W p l e R s m args below meth c H locs c0 s0 (MQX below D cl A as0 r args s) (F0 m pc ls cst)) →
        W p l e R s m args below meth c H locs c0 s0 (MQX below D cl A as0 r args s) (F0 m pc ls cst) := by
      intro idx q mj rest crest avs cvs vt hinv hg ha hrest hrun hthr
      obtain ⟨g1, g2, g3, gg⟩ := hg
      obtain ⟨hVj, -⟩ := m5 idx mj q hinv
      rcases gg with ⟨v, h1, c1, s1, g4, g5, g6⟩ | ⟨J, ds, bvs, v1, h1, c1, s1, cs, v, k0, g4, g5, k1, k2, k3, g6⟩ | ⟨k, h1, c1, s1, hvt, g4, g5, g6⟩
      · have hmono := Rn_mono _ _ _ _ _ _ _ _ _ _ _ g6
        have hM := met_of2 hl0 (D := D) (tys := tys) (sz := H.size) ih oP g5 hVj g4 G.1 ha
        have hR := hrun ws _ _ _ _ _ G.2.2.1 (G.2.2.2.1.weaken (fun _ _ _ _ => trivial)) (sg_A G) hM rfl rfl ⟨by show fb - 1 + 1 ≤ R.frames; omega, by show 8 + (xml X mj + 11) + (lb - (19 + xml X mj)) ≤ R.locals; omega⟩ ⟨by omega, by omega⟩ (lv_room (by rw [vrs_sum hrest]; exact g1))
        refine x_call hR G (sg_A G) (fun cv as' tys' ws' H1 locs1 k1 k2 k3 => ?_)
        exact ih _ _ _ _ _ _ _ _ _ _ g6 hV p e R s m args below meth c C hfb hlb hcells hslots D A as0 as' tys' ws' H1 locs1 ls clv _ (pre_tr hpre k1) hl (lrs_pre k1 hlr) (ovr_list k2 (vrs_pre k1 hrest)) k3 hTs hAs
      · have hmono := Rn_mono _ _ _ _ _ _ _ _ _ _ _ g6
        obtain ⟨u1, u2, u3, u4⟩ := cutJ_wr G.1 k0 ha
        have hJw : ∀ j ∈ J, j < ws.length := fun j hj => by rw [G.1.2.1]; exact u2 j hj
        have hM := met_of2 hl0 (D := D) (tys := tys) (sz := H.size) ih oP g5 hVj g4 u3 u4
        have hA1 : ∀ q, va_A (wsJ ws J) H.size q → A q := by
          intro q hq
          rcases hq with ⟨k, x, hk⟩ | hq
          · exact (wsJ_D u1 G.2.2.2.1 hJw).2 k (q, x) hk
          · exact G.2.2.2.2.2 q (Nat.le_trans G.2.2.2.2.1.1 hq)
        have hR := hrun (wsJ ws J) _ _ _ _ _ (wsJ_P G.2.2.1 hJw) (wsJ_D u1 (G.2.2.2.1.weaken (fun _ _ _ _ => trivial)) hJw) hA1 hM rfl rfl ⟨by show fb - 1 + 1 ≤ R.frames; omega, by show 8 + (xml X mj + 11) + (lb - (19 + xml X mj)) ≤ R.locals; omega⟩ ⟨by omega, by omega⟩ (lv_room (by rw [vrs_sum hrest]; exact g1))
        refine x_callC hR G u1 u2 k1 k2 k3 hA1 (fun cv as' tys' ws' H1 locs1 j1 j2 j3 => ?_)
        exact ih _ _ _ _ _ _ _ _ _ _ g6 hV p e R s m args below meth c C hfb hlb hcells hslots D A as0 as' tys' ws' H1 locs1 ls clv _ (pre_tr hpre j1) hl (lrs_pre j1 hlr) (ovr_list j2 (vrs_pre j1 hrest)) j3 hTs hAs
      · exact hthr k h1 c1 s1 hvt g2 g3 g1 g4 g5 g6
    have good : ∀ mj, V mj → GoodIn TB (xws X B TB mj) := fun mj hj w hw => by
      rcases List.mem_cons.mp hw with rfl | hw
      · exact ⟨(oP.2.2 mj hj).2.2.1, oP.2.1 _ (oP.2.2 mj hj).2.2.1⟩
      · exact ⟨hw, oP.2.1 _ hw⟩
    have pre2 : ∀ (ws0 : va_W), va_P D cl ws0 H → va_D (fun _ => True) ws0 → (∀ q, va_A ws0 H.size q → A q) → ∀ (cvs : List Value) (U : State), U.heap = H → s.WarmedH U.vm → va_Pc cvs (xPre2 D cl N tys ws0 H.size) cvs.toArray U := fun ws0 hP0 hD0 hA0 cvs U hU hW => ⟨rfl, ⟨by rw [hU], by rw [hU]; exact hP0, va_K.moved hW.alike G.2.1, hD0, nx_warm hW hN⟩, thS_call hTs G.2.2.2.2.1 hA0 hU hW⟩
    rcases hr with ⟨v, rfl, rfl, ⟨ty, hty, hnw⟩, rfl⟩ | ⟨v, rfl, rfl, hty, rfl⟩ | ⟨a, rt, rfl, rfl, hty, hrt, rfl⟩ | ⟨rfl, rfl, hty, rfl⟩ | ⟨idx, q, mj, b, rest, ci, vs, rfl, hinv, hst2, hq, hcell, hcn, hkd, hg⟩ | ⟨idx, q, mj, rfl, hinv, hq, hkd, hg⟩ | ⟨idx, q, mj, b, rest, rfl, hinv, hst2, hq, hkd, hg⟩ | ⟨idx, b, rest, rfl, hinv, rfl, hf1, hf2, hg⟩ | ⟨idx, q, w, rfl, hinv, hm, hf1, hf2, hg⟩ | ⟨o, ho, hg⟩ | ⟨ia, ic, k, rfl, hth, hd3, hd4, hd7, hf1, hf2, rfl⟩ | ⟨lv', hlv, hg⟩
    · obtain ⟨t, rfl, ht⟩ := vrs_i hst
      have ht : t = [] := ht
      subst ht
      exact W.zret hx hb (hret.trans hty) hnw (fin (some (.int v)) _ _ _ ⟨_, rfl, rfl⟩) G.2.2.2.2.1.2.2 hdc hlocks
    · obtain ⟨t, rfl, ht⟩ := vrs_l hst
      have ht : t = [] := ht
      subst ht
      exact W.lret hx hb (hret.trans hty) (fin (some (.long v)) _ _ _ ⟨_, rfl, rfl⟩) G.2.2.2.2.1.2.2 hdc hlocks
    · obtain ⟨a', t, rfl, ha', ht⟩ := vrs_r hst
      have ht : t = [] := ht
      subst ht
      exact W.aret hx hb (hret.trans hty) hrt (Or.inr ⟨a', rfl⟩) (fin (some (.ref a)) _ _ _ ⟨_, rfl, ⟨a', rfl, ha'⟩⟩) G.2.2.2.2.1.2.2 hdc hlocks
    · have ht : cst = [] := hst
      subst ht
      exact W.vret hx hb (hret.trans hty) (fin none none _ _ rfl) G.2.2.2.2.1.2.2 hdc hlocks
    · -- invokevirtual
      obtain ⟨hVj, o1, o2, o3, o4, -, -⟩ := m5 idx mj q hinv
      obtain ⟨o5, o6⟩ := o4 hkd
      have hl1 : Cond.methodLink (B.1 mi).cls idx (B.1 mj) ∈ TB := by
        rcases o3 with z | ⟨z, -⟩
        · exact z
        · omega
      have hdr := vrs_drop q hst
      rw [hst2] at hdr
      obtain ⟨bb, crest, hcr, hbb, hrest⟩ := vrs_r hdr
      obtain ⟨a', e', g1, g2, u, rfl, g3⟩ := G.1.2.2 b _ hcell
      have haa : a' = bb := Option.some.inj (g1.symm.trans hbb)
      subst haa
      obtain ⟨r9, hr9⟩ := sg_cl G hcell
      obtain ⟨C9, T9, N9⟩ := r9
      have hC9 : xcn X ci = C9 := (oP.1.1 ci C9 T9 N9 hr9).2.2.2.2.2.2.2.2
      have hrec := va_recv (q := (C9, T9, N9)) G.2.1 G.2.2.1 hr9 g2
      rw [← hC9, hcn] at hrec
      have hlen : (cst.take q).reverse.length = q := by rw [List.length_reverse, List.length_take, vrs_len hst]; omega
      have hstk : cst = (cst.take q).reverse.reverse ++ .ref a' :: crest := by rw [List.reverse_reverse, ← hcr, List.take_append_drop]
      have hav := vrs_cr hbb (vrs_rev (vrs_take q hst))
      refine call hinv hg hav hrest (fun ws0 rm mc ms Qc free hP0 hD0 hA0 hM hc1 hc2 hR hcap hroom => ?_) (fun k h1 c1 s1 _ f1 f2 f3 f4 f5 f6 => ?_)
      · exact va_runV (Ts := TB) (own := (B.1 mi).cls) (C := (B.1 mj).cls) (b := a') (As := (cst.take q).reverse) (rest := crest) ⟨hx, hb, hml, hown, hts⟩ hM ⟨callB_of q hts (good mj hVj) rfl hc1 hc2 (hts _ o1) (hts _ hl1) o2 hR, hts _ o5, hts _ o6⟩ ⟨FB2, hrec, pre2 ws0 hP0 hD0 hA0 _⟩ rfl hlen hl.1 hstk hroom hdc hcap
      · subst f6
        have hM := met_of2T hl0 (D := D) (tys := tys) (sz := H.size) ih oP f5 hVj f4 G.1 hav
        refine passVT (Ts := TB) (own := (B.1 mi).cls) (C := (B.1 mj).cls) (b := a') (As := (cst.take q).reverse) (rest := crest) (free' := A) ⟨hx, hb, hml, hown, hts⟩ hM ⟨callB_of q hts (good mj hVj) rfl rfl rfl (hts _ o1) (hts _ hl1) o2 ⟨by show fb - 1 + 1 ≤ R.frames; omega, by show 8 + (xml X mj + 11) + (lb - (19 + xml X mj)) ≤ R.locals; omega⟩, hts _ o5, hts _ o6⟩ ⟨FB2, hrec, pre2 ws G.2.2.1 (G.2.2.2.1.weaken (fun _ _ _ _ => trivial)) (sg_A G) _⟩ hlen hl.1 hstk (by rw [vrs_sum hrest]; exact f3) hdc ⟨hcells, hslots⟩ hlocks (hout pc) (sg_A G) G.2.2.2.2.1.2.2 ?_
        rintro x st₀ t t' e1 e2 e3 - ⟨⟨ce, q1, q2, q3⟩, q4, q5, q6⟩
        refine ⟨⟨ce, by rw [e2]; exact q1, by rw [e3]; exact q2, q3⟩, Nat.le_trans G.2.2.2.2.1.1 (by rw [← e1]; exact q4), ?_, fun z hz hnz => ?_⟩
        · rw [e2]; exact Nat.le_trans G.2.2.2.2.1.1 (by rw [← e1]; exact q5)
        · rw [e2, q6 z (by rw [e1]; exact Nat.lt_of_lt_of_le hz G.2.2.2.2.1.1) (fun w => hnz (sg_A G z w)), e1]
          exact G.2.2.2.2.1.2.1 z hz hnz
    · -- invokestatic
      obtain ⟨hVj, o1, o2, o3, -, o4, -⟩ := m5 idx mj q hinv
      have o5 := o4 hkd
      have hl1 : Cond.methodLink (B.1 mi).cls idx (B.1 mj) ∈ TB := by
        rcases o3 with z | ⟨z, -⟩
        · exact z
        · omega
      refine call hinv hg (vrs_rev (vrs_take q hst)) (vrs_drop q hst) (fun ws0 rm mc ms Qc free hP0 hD0 hA0 hM hc1 hc2 hR hcap hroom => ?_) (fun k h1 c1 s1 hvt f1 f2 f3 f4 f5 f6 => hvt.elim)
      have hlen : (cst.take q).reverse.length = q := by rw [List.length_reverse, List.length_take, vrs_len hst]; omega
      exact va_runS (Ts := TB) (own := (B.1 mi).cls) (As := (cst.take q).reverse) (rest := cst.drop q) ⟨hx, hb, hml, hown, hts⟩ hM ⟨callB_of q hts (good mj hVj) rfl hc1 hc2 (hts _ o1) (hts _ hl1) o2 hR, hts _ o5⟩ ⟨FB2, pre2 ws0 hP0 hD0 hA0 _⟩ rfl hlen hl.1 (by show cst = _; rw [List.reverse_reverse, List.take_append_drop]) hroom hdc hcap
    · -- invokespecial
      obtain ⟨hVj, o1, o2, o3, -, -, o4⟩ := m5 idx mj q hinv
      obtain ⟨o5, o6, o7⟩ := o4 hkd
      have hdr := vrs_drop q hst
      rw [hst2] at hdr
      obtain ⟨bb, crest, hcr, hbb, hrest⟩ := vrs_r hdr
      refine call hinv hg (vrs_cr hbb (vrs_rev (vrs_take q hst))) hrest (fun ws0 rm mc ms Qc free hP0 hD0 hA0 hM hc1 hc2 hR hcap hroom => ?_) (fun k h1 c1 s1 hvt f1 f2 f3 f4 f5 f6 => hvt.elim)
      have hlen : (cst.take q).reverse.length = q := by rw [List.length_reverse, List.length_take, vrs_len hst]; omega
      have hsk : cst = (cst.take q).reverse.reverse ++ .ref bb :: crest := by rw [List.reverse_reverse, ← hcr, List.take_append_drop]
      have hw0 : xws X B TB mj = Cond.code (B.1 mj) (B.2.2 mj) (xml X mj) none :: TB := by unfold xws; rw [o7]
      rcases o3 with z | ⟨-, host, z⟩
      · exact va_runI (Ts := TB) (own := (B.1 mi).cls) (b := bb) (As := (cst.take q).reverse) (rest := crest) ⟨hx, hb, hml, hown, hts⟩ hM ⟨callB_of q hts (good mj hVj) hw0 hc1 hc2 (hts _ o1) (hts _ z) o2 hR, o6, hts _ o5⟩ ⟨FB2, pre2 ws0 hP0 hD0 hA0 _⟩ rfl hlen hl.1 hsk hroom hdc hcap
      · exact va_runIN (Ts := TB) (own := (B.1 mi).cls) (host := host) (b := bb) (As := (cst.take q).reverse) (rest := crest) ⟨hx, hb, hml, hown, hts⟩ hM ⟨va_cnB q hts (good mj hVj) hw0 hc1 hc2 (hN.2 _ z) (hts _ o1) o2 hR, o6, hts _ o5⟩ ⟨FB2, pre2 ws0 hP0 hD0 hA0 _⟩ rfl hlen hl.1 hsk hroom hdc hcap
    · -- Object's constructor
      obtain ⟨o1, o2, o3⟩ := (m4 idx 0 hinv).1 rfl
      obtain ⟨bb, crest, rfl, hbb, hrest⟩ := vrs_r hst
      refine W.objInit hx hb hown (hts _ o1) (hts _ o2) (hts _ o3) rfl (by rw [hml]; exact hl.1) rfl hdc (by omega) ?_ ?_
      · have := vrs_sum hrest
        show 2 * (F0 m pc ls (Value.ref bb :: crest)).monitorRoom + (crest.map fun v => v.category).sum + 12 ≤ R.locals
        have h0 : (F0 m pc ls (Value.ref bb :: crest)).monitorRoom = 0 := rfl
        rw [h0, this]
        omega
      · exact ih _ _ _ _ _ _ _ _ _ _ hg hV p e R s m args below meth c C hfb hlb hcells hslots D A as0 as tys ws H locs ls clv _ hpre hl hlr hrest G hTs hAs
    · -- Math
      have hmono := Rn_mono _ _ _ _ _ _ _ _ _ _ _ hg
      have hml2 : c.maxLocals = ls.size := by rw [hml]; exact hl.1.symm
      have go : ∀ (crest : List Value), vrs as w.2 crest → W p l e R s m args below meth c H locs c0 s0 (MQX below D cl A as0 r args s) (F0 m (pc + 3) ls (.int w.1 :: crest)) := fun crest hcr => ih _ _ _ _ _ _ _ _ _ _ hg hV p e R s m args below meth c C hfb hlb hcells hslots D A as0 as tys ws H locs ls clv _ hpre hl hlr (vrs_ci hcr) G hTs hAs
      rcases x_math_v hm with ⟨x, rfl, hs, hw1⟩ | ⟨x, y, rfl, hs, hw1⟩ | ⟨x, y, rfl, hs, hw1⟩
      · obtain ⟨o1, o2, o3, o4⟩ := (m4 idx _ hinv).2.2.2 rfl
        rw [hs] at hst
        obtain ⟨crest, rfl, hcr⟩ := vrs_i hst
        refine va_mabs hx hb hml2 hown (hts _ o1) (hts _ o2) (hts _ o3) (hts _ o4) (by omega) (by rw [vrs_sum hcr]; omega) (by omega) (by omega) hdc ?_
        rw [← hw1]
        exact go crest hcr
      · obtain ⟨o1, o2, o3, o4⟩ := (m4 idx _ hinv).2.1 rfl
        rw [hs] at hst
        obtain ⟨c1, rfl, hc1⟩ := vrs_i hst
        obtain ⟨crest, rfl, hcr⟩ := vrs_i hc1
        refine va_mmax hx hb hml2 hown (hts _ o1) (hts _ o2) (hts _ o3) (hts _ o4) (by omega) (by rw [vrs_sum hcr]; omega) (by omega) (by omega) hdc ?_
        rw [← hw1]
        exact go crest hcr
      · obtain ⟨o1, o2, o3, o4⟩ := (m4 idx _ hinv).2.2.1 rfl
        rw [hs] at hst
        obtain ⟨c1, rfl, hc1⟩ := vrs_i hst
        obtain ⟨crest, rfl, hcr⟩ := vrs_i hc1
        refine va_mmin hx hb hml2 hown (hts _ o1) (hts _ o2) (hts _ o3) (hts _ o4) (by omega) (by rw [vrs_sum hcr]; omega) (by omega) (by omega) hdc ?_
        rw [← hw1]
        exact go crest hcr
    · have hmono := Rn_mono _ _ _ _ _ _ _ _ _ _ _ hg
      refine x_hs_ok hx hb hts hown hnm oP.1 m2 hN.1 hdc ho hl hlr hst G (by omega) (by omega) (fun as' ls' clv' cst' tys' ws' H' locs' k1 k2 k3 k4 k5 => ?_)
      exact ih _ _ _ _ _ _ _ _ _ _ hg hV p e R s m args below meth c C hfb hlb hcells hslots D A as0 as' tys' ws' H' locs' ls' clv' cst' (pre_tr hpre k1) k2 k3 k4 k5 hTs hAs
    · -- throw new
      obtain ⟨names, t1, t2, t3, t4, t5, t6⟩ := oT mi pc ia ic k hth
      have hsum := vrs_sum hst
      exact throwNew (names := names) (own := (B.1 mi).cls) hx hb htr hlocks (by rw [hml]; exact hl.1.symm) hown t2 t3 (fun a ha => by
        rcases t4 a ha with q | q
        · exact hts _ q
        · exact thS_w hTs a q) (hts _ t5) (hts _ t6) (fun x hx cell hc => hAs _ (G.2.2.2.2.1.2.2 x hx) cell hc) G.2.2.2.2.1.2.2 G.2.2.2.2.1.1 hdc (m2.1 _ _ hd3) (m2.1 _ _ hd4) (m2.1 _ _ hd7) (hout _) ⟨hcells, hslots⟩ (by omega) (by omega)
    · -- fewer locals
      obtain ⟨clv', g1, g2⟩ := lrs_few (lv' := lv') (fun q hq => lrs_mem hlr q (hlv q hq))
      exact ih _ _ _ _ _ _ _ _ _ _ hg hV p e R s m args below meth c C hfb hlb hcells hslots D A as0 as tys ws H locs ls clv' cst hpre ⟨hl.1, hl.2.1, fun q hq => hl.2.2 q (g2 q hq)⟩ g1 hst G hTs hAs
