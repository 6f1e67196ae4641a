/-! contracts out of runs -/
def ovr (as : List Nat) (v w : Option Value) : Prop := match v with
  | none => w = none
  | some x => ∃ y, w = some y ∧ vr as x y
theorem ovr_list {as : List Nat} {v w : Option Value} {r t : List Value} (h : ovr as v w) (h2 : vrs as r t) : vrs as (v.toList ++ r) (w.toList ++ t) := by
  cases v with
  | none => have h : w = none := h; rw [h]; exact h2
  | some x =>
    obtain ⟨y, rfl, h3⟩ := h
    exact vrs_cv h3 h2
theorem vrs_apd {as : List Nat} : ∀ {a b c d : List Value}, vrs as a b → vrs as c d → vrs as (a ++ c) (b ++ d)
  | [], _, _, _, h, h2 => by have h : _ = _ := h; rw [h]; exact h2
  | _ :: _, _, _, _, h, h2 => by
    obtain ⟨x, r, rfl, h3, h4⟩ := h
    exact vrs_cv h3 (vrs_apd h4 h2)
theorem vrs_rev {as : List Nat} : ∀ {a b : List Value}, vrs as a b → vrs as a.reverse b.reverse
  | [], _, h => by have h : _ = _ := h; rw [h]; rfl
  | _ :: _, _, h => by
    obtain ⟨x, r, rfl, h3, h4⟩ := h
    rw [List.reverse_cons, List.reverse_cons]
    exact vrs_apd (vrs_rev h4) (vrs_cv h3 rfl)
theorem vrs_take {as : List Nat} (n : Nat) : ∀ {a b : List Value}, vrs as a b → vrs as (a.take n) (b.take n) := by
  induction n with
  | zero => intro a b _; rw [List.take_zero, List.take_zero]; rfl
  | succ n ih =>
    intro a b h
    cases a with
    | nil => have h : b = [] := h; rw [h]; rfl
    | cons x t =>
      obtain ⟨y, r, rfl, h3, h4⟩ := h
      rw [List.take_succ_cons, List.take_succ_cons]
      exact vrs_cv h3 (ih h4)
theorem vrs_drop {as : List Nat} (n : Nat) : ∀ {a b : List Value}, vrs as a b → vrs as (a.drop n) (b.drop n) := by
  induction n with
  | zero => intro a b h; exact h
  | succ n ih =>
    intro a b h
    cases a with
    | nil => have h : b = [] := h; rw [h]; rfl
    | cons x t =>
      obtain ⟨y, r, rfl, h3, h4⟩ := h
      exact ih h4
theorem vrs_sum {as : List Nat} : ∀ {a b : List Value}, vrs as a b → (b.map fun v => v.category).sum = x_sum a
  | [], _, h => by have h : _ = _ := h; rw [h]; rfl
  | _ :: _, _, h => by
    obtain ⟨x, r, rfl, h3, h4⟩ := h
    have := vrs_sum h4
    unfold x_sum at this ⊢
    rw [List.map_cons, List.map_cons, List.sum_cons, List.sum_cons, this, vr_cat h3]
theorem vrs_sl {as : List Nat} : ∀ {a b : List Value}, vrs as a b → (lg_sl b).length = (lg_sl a).length
  | [], _, h => by have h : _ = _ := h; rw [h]
  | v :: _, _, h => by
    obtain ⟨x, r, rfl, h3, h4⟩ := h
    have := vrs_sl h4
    unfold lg_sl at this ⊢
    rw [List.flatMap_cons, List.flatMap_cons, List.length_append, List.length_append, this, vr_cat h3]
    by_cases hc : v.category = 2 <;> simp [hc]
theorem lrs_args {as : List Nat} : ∀ {a b : List Value} (i : Nat), vrs as a b → lrs as (lv_args i a) (lv_args i b)
  | [], _, _, h => by have h : _ = _ := h; rw [h]; rfl
  | v :: _, _, i, h => by
    obtain ⟨x, r, rfl, h3, h4⟩ := h
    refine ⟨x, _, ?_, h3, lrs_args _ h4⟩
    show (i, x) :: lv_args (if x.category = 2 then i + 2 else i + 1) r = _
    rw [vr_cat h3]
/-- nest mates' links, classes that arrays are made over -/
abbrev xN : Type := List String × List (String × Nat × MethodName × String)
def nx (N : xN) (s : State) : Prop := (∀ C ∈ N.1, va_AO C s) ∧ ∀ q ∈ N.2, va_Nw (.methodLinkNest q.1 q.2.1 q.2.2.1 q.2.2.2) s
theorem nx_warm {N : xN} {s U : State} (hW : s.WarmedH U.vm) (h : nx N s) : nx N U := ⟨fun C hC => va_AO.moved hW.alike (h.1 C hC), fun q hq => va_Nw.warmM hW (h.2 q hq)⟩
theorem nx_same {N : xN} {s U : State} (hv : s.vm = U.vm) (h : nx N s) : nx N U := ⟨fun C hC => va_AO.moved (by rw [hv]; exact Vm.Alike.refl U.vm) (h.1 C hC), fun q hq => va_Nw.same rfl hv (h.2 q hq)⟩
/-- a method's end by the run -/
def xPost (D : va_G) (cl : List vw_C) (A : Nat → Prop) (as : List Nat) (r : xR) : Array Value → State → Outcome → State → Prop := fun _ st oc t =>
  (∃ (cv : Option Value) (as' : List Nat) (tys' : List (ClassId × FieldType)) (ws' : va_W), oc = .returned cv ∧ pre as as' ∧ ovr as' r.1 cv ∧ wr as' tys' r.2.1 ws' ∧ va_K D cl tys' t ∧ va_P D cl ws' t.heap ∧ va_D A ws') ∧ va_F A st t
def xPre (D : va_G) (cl : List vw_C) (N : xN) (tys : List (ClassId × FieldType)) (ws : va_W) (sz : Nat) : State → Prop := fun U => U.heap.size = sz ∧ va_P D cl ws U.heap ∧ va_K D cl tys U ∧ va_D (fun _ => True) ws ∧ nx N U
abbrev xTab : Type := (Nat → MethodName) × (Nat → Nat) × (Nat → ByteArray)
def xws (X : xProg) (B : xTab) (TB : List Cond) (mi : Nat) : List Cond := .code (B.1 mi) (B.2.2 mi) (xml X mi) (xrt X mi) :: TB
def okI (X : xProg) (B : xTab) (TB : List Cond) (N : xN) (own : String) (idx mj n : Nat) : Prop := Cond.initialized (B.1 mj).cls ∈ TB ∧ ((B.1 mj).cls ≠ "java/lang/invoke/MethodHandle" ∧ (B.1 mj).cls ≠ "java/lang/invoke/VarHandle" ∧ (parseMethodDescriptor (B.1 mj).desc).map (fun d => d.parameters.length) = some n) ∧ (Cond.methodLink own idx (B.1 mj) ∈ TB ∨ (B.2.1 mj = 2 ∧ ∃ host, (own, idx, B.1 mj, host) ∈ N.2)) ∧
  (B.2.1 mj = 0 → Cond.instanceMethod (B.1 mj) ∈ TB ∧ Cond.selects (B.1 mj).cls (B.1 mj) (B.1 mj) ∈ TB) ∧ (B.2.1 mj = 1 → Cond.static (B.1 mj) ∈ TB) ∧ (B.2.1 mj = 2 → Cond.instanceMethod (B.1 mj) ∈ TB ∧ (B.1 mj).name = "<init>" ∧ xrt X mj = none)
def okM (X : xProg) (B : xTab) (TB : List Cond) (cl : List vw_C) (N : xN) (V : Nat → Prop) (mi : Nat) : Prop := plainName (B.1 mi).cls = true ∧ okX X TB cl N.1 (B.1 mi).cls (B.1 mi).name mi (B.2.2 mi) ∧ Cond.code (B.1 mi) (B.2.2 mi) (xml X mi) (xrt X mi) ∈ TB ∧
  (∀ idx n, xinv X mi idx = some (none, n) → (n = 0 → Cond.methodLink (B.1 mi).cls idx objectInit ∈ TB ∧ Cond.instanceMethod objectInit ∈ TB ∧ Cond.code objectInit ⟨#[0xb1]⟩ 1 none ∈ TB) ∧
    (n = 10 → Cond.methodLink (B.1 mi).cls idx Lib.Math.max.name ∈ TB ∧ Cond.static Lib.Math.max.name ∈ TB ∧ Cond.initialized "java/lang/Math" ∈ TB ∧ Cond.code Lib.Math.max.name Lib.Math.max.code 2 (some .int) ∈ TB) ∧
    (n = 11 → Cond.methodLink (B.1 mi).cls idx Lib.Math.min.name ∈ TB ∧ Cond.static Lib.Math.min.name ∈ TB ∧ Cond.initialized "java/lang/Math" ∈ TB ∧ Cond.code Lib.Math.min.name Lib.Math.min.code 2 (some .int) ∈ TB) ∧
    (n = 12 → Cond.methodLink (B.1 mi).cls idx Lib.Math.abs.name ∈ TB ∧ Cond.static Lib.Math.abs.name ∈ TB ∧ Cond.initialized "java/lang/Math" ∈ TB ∧ Cond.code Lib.Math.abs.name Lib.Math.abs.code 1 (some .int) ∈ TB)) ∧
  (∀ idx mj n, xinv X mi idx = some (some mj, n) → V mj ∧ okI X B TB N (B.1 mi).cls idx mj n)
def okP (X : xProg) (B : xTab) (TB : List Cond) (cl : List vw_C) (N : xN) (V : Nat → Prop) : Prop := okC X TB cl ∧ (∀ w ∈ TB, (w.onTables && w.keeps) = true ∨ ∃ ty, w = .arrayClass ty) ∧ ∀ mi, V mi → okM X B TB cl N V mi
def ctx (X : xProg) (B : xTab) (TB : List Cond) (N : xN) (p : Program) (s : State) (m : MethodId) (args : Array Value) (meth : Method) (c : Code) (mi : Nat) : Prop := p.tables.exec = Jvm.exec ∧ c.code = B.2.2 mi ∧ meth.sig.returnType = xrt X mi ∧ meth.locks = false ∧ c.maxLocals = xml X mi ∧ s.vm.findClass (B.1 mi).cls = some m.cls ∧ meth.name = (B.1 mi).name ∧ (∀ w ∈ TB, w.before args s = true) ∧ nx N s
/-- every run of n steps at most is the machine's -/
def Snd (X : xProg) (B : xTab) (TB : List Cond) (cl : List vw_C) (N : xN) (V : Nat → Prop) (l : Launch) (n : Nat) : Prop :=
  ∀ (fb lb mi pc : Nat) (lv : xL) (st : List Value) (h : xH) (c0 s0 : Nat) (r : xR), run X B.1 B.2.1 n fb lb mi pc lv st h c0 s0 = some r → V mi →
  ∀ (p : Program) (e : Env) (R : Room) (s : State) (m : MethodId) (args : Array Value) (below : List Frame) (meth : Method) (c : Code), ctx X B TB N p s m args meth c mi → fb ≤ R.frames → lb ≤ R.locals → r.2.2.1 ≤ R.cells → r.2.2.2 ≤ R.slots →
  ∀ (D : va_G) (A : Nat → Prop) (as0 as : List Nat) (tys : List (ClassId × FieldType)) (ws : va_W) (H : Heap) (locs : List Loc) (ls : Array Slot) (clv : xL) (cst : List Value), pre as0 as → lv_has ls (xml X mi) clv → lrs as lv clv → vrs as st cst → sg D cl A s h as tys ws H locs →
  W p l e R s m args below meth c H locs c0 s0 (MQ below (xPost D cl A as0 r) args s r.2.2.1 r.2.2.2 A) (F0 m pc ls cst)
section XCALL
variable {p : Program} {l : Launch} {e : Env} {R : Room} {s : State} {m : MethodId} {args : Array Value} {below : List Frame} {meth : Method} {c : Code} {H : Heap} {locs : List Loc} {cells slots : Nat} {Q : State → Prop}
/-- behind a call -/
theorem x_call {D : va_G} {cl : List vw_C} {A A1 : Nat → Prop} {as : List Nat} {r : xR} {h : xH} {tys : List (ClassId × FieldType)} {ws : va_W} {pc mc ms : Nat} {ls : Array Slot} {st0 rest : List Value} {a : Array Value} (hr : va_Run p l e R s m args below meth c H locs cells slots mc ms (F0 m pc ls st0) rest (xPost D cl A1 as r a) A1) (G : sg D cl A s h as tys ws H locs) (hA1 : ∀ q, A1 q → A q)
    (kk : ∀ (cv : Option Value) (as' : List Nat) (tys' : List (ClassId × FieldType)) (ws' : va_W) (H1 : Heap) (locs1 : List Loc), pre as as' → ovr as' r.1 cv → sg D cl A s r.2.1 as' tys' ws' H1 locs1 → W p l e R s m args below meth c H1 locs1 (cells + mc) (slots + ms) Q (F0 m (pc + 3) ls (cv.toList ++ rest))) : W p l e R s m args below meth c H locs cells slots Q (F0 m pc ls st0) := by
  obtain ⟨hw, hK, hP, hD, hS, hA⟩ := G
  intro T hT X
  obtain ⟨v, st₀, t, T', L, h0, X', hL, e1, e2, ⟨⟨cv, as', tys', ws', hv, g1, g2, g3, g4, g5, g6⟩, hz, hk⟩, st⟩ := hr T hT X
  cases hv
  rw [h0] at hz hk
  have hal : s.vm.Alike t.vm := by rw [← e2]; exact X'.warmed.alike
  obtain ⟨t2, a1, b1⟩ := kk v as' tys' ws' T'.heap (locs ++ L) g1 g2 ⟨g3, va_K.moved hal.symm g4, by rw [e1]; exact g5, g6.weaken (fun _ q _ z => hA1 q.1 z), ⟨Nat.le_trans hS.1 (by rw [e1]; exact hz), fun q h1 h2 => by rw [e1, hk q (Nat.lt_of_lt_of_le h1 hS.1) (fun z => h2 (hA1 q z))]; exact hS.2.1 q h1 h2, fun q hq => by
      rcases List.mem_append.mp hq with h | h
      · exact hS.2.2 q h
      · exact hA1 _ (hL q h)⟩, hA⟩ T' rfl X'
  exact ⟨t2, st t2 a1, b1⟩
end XCALL
set_option maxHeartbeats 4000000 in
/-- a callee's contract, out of its run -/
theorem met_of {X : xProg} {B : xTab} {TB : List Cond} {cl : List vw_C} {N : xN} {V : Nat → Prop} {l : Launch} {n : Nat} (ih : Snd X B TB cl N V l n) (oP : okP X B TB cl N V) {fb lb mj : Nat} {avs cvs : List Value} {h : xH} {r : xR} (hr : run X B.1 B.2.1 n fb lb mj 0 (lv_args 0 avs) [] h 0 0 = some r) (hV : V mj) (hsl : (lg_sl avs).length ≤ xml X mj)
    {D : va_G} {as : List Nat} {tys : List (ClassId × FieldType)} {ws : va_W} {sz : Nat} (hw : wr as tys h ws) (ha : vrs as avs cvs) :
    Met l (B.1 mj) (xws X B TB mj) { frames := fb, cells := r.2.2.1, slots := r.2.2.2, locals := lb } (va_Pc cvs (xPre D cl N tys ws sz)) (xPost D cl (va_A ws sz) as r) r.2.2.1 r.2.2.2 (va_A ws sz) := by
  obtain ⟨m1, m2, m3, m4, m5⟩ := oP.2.2 mj hV
  refine Met.ofW (cc := B.2.2 mj) (maxL := xml X mj) (ret := xrt X mj) m1 rfl ?_
  intro p e s m args below meth c s₁ b hml hv
  obtain ⟨rfl, hsz, hP, hK, hD0, hN⟩ := hv
  have hts := atoms_spec (ws := xws X B TB mj) b.pre
  subst hsz
  have hl := lv_entry cvs (n := xml X mj) (by rw [vrs_sl ha]; exact hsl)
  rw [lg_entry_eq]
  refine ih fb lb mj 0 _ _ h 0 0 r hr hV p e _ s m _ below meth c ⟨b.exec, b.bytes, b.returns, b.notSynchronized, hml, findClass_of_methodNamed b.named, (name_of_methodNamed b.named b.method).1, fun w hw => hts w (List.mem_cons_of_mem _ hw), hN⟩ (Nat.le_refl _) (Nat.le_refl _) (Nat.le_refl _) (Nat.le_refl _) D (va_A ws s.heap.size) as as tys ws s.heap [] _ _ _ pre_rf hl (lrs_args 0 ha) rfl ⟨hw, hK, hP, hD0.self, va_S.rf, fun q h => Or.inr h⟩
