/-! the law's own frame: worlds, parts of them, calls -/
set_option maxHeartbeats 1000000 in
/-- laid back, where the callee was free to change more -/
theorem mg_worldG {D : va_G} {cl : List vw_C} {A : Nat → Prop} {as t : List Nat} {tys tys' : List (ClassId × FieldType)} {h cells cs : xH} {ws ws' : va_W} {H H1 : Heap} {J : List Nat} (hw : wr as tys h ws) (hP : va_P D cl ws H) (hD : va_D A ws) (hn : ndp J = true) (hJ : ∀ j ∈ J, j < h.length)
    (hw' : wr (asJ as J ++ t) tys' cells ws') (hJl : J.length ≤ cells.length) (hcs : rcs (bk J h.length) cells = some cs) (hP' : va_P D cl ws' H1) {A1 : Nat → Prop} (hD' : va_D A1 ws') (hk : ∀ q : Nat, q < H.size → ¬ A1 q → H1[q]? = H[q]?) (hA1 : ∀ q, A1 q → A q) (hfar : ∀ (i : Nat) (x : Nat × va_E), sp J i = none → ws[i]? = some x → ¬ A1 x.1) :
    wr (as ++ t) (tys ++ tys') (mg h J cs) (mg ws J ws') ∧ va_P D cl (mg ws J ws') H1 ∧ va_D A (mg ws J ws') ∧ Ren (bk J h.length) (asJ as J ++ t) (as ++ t) := by
  obtain ⟨w1, w2, w3⟩ := hw
  obtain ⟨v1, v2, v3⟩ := hw'
  obtain ⟨c1, c2⟩ := rcs_at hcs
  have lJ : (asJ as J).length = J.length := by simp [asJ]
  have hJa : ∀ j ∈ J, j < as.length := fun j hj => by rw [w1]; exact hJ j hj
  have hJw : ∀ j ∈ J, j < ws.length := fun j hj => by rw [w2]; exact hJ j hj
  have R : Ren (bk J h.length) (asJ as J ++ t) (as ++ t) := by
    intro k j a hb ha
    unfold bk at hb
    by_cases hkl : k < J.length
    · rw [if_pos hkl] at hb
      rw [List.getElem?_append_left (by omega)] at ha
      obtain ⟨j', g1, g2⟩ := asJ_inv ha hJa
      have e1 : j' = j := Option.some.inj (g1.symm.trans hb)
      subst e1
      rw [List.getElem?_append_left (List.getElem?_eq_some_iff.mp g2).1]
      exact g2
    · rw [if_neg hkl] at hb
      cases hb
      rw [List.getElem?_append_right (by omega), lJ] at ha
      rw [List.getElem?_append_right (by omega), show h.length + (k - J.length) - as.length = k - J.length by omega]
      exact ha
  have hcl : J.length ≤ cs.length := by omega
  have hwl : J.length ≤ ws'.length := by omega
  have mh := mg_at (h := h) (cs := cs) hcl hn hJ
  have mw := mg_at (h := ws) (cs := ws') hwl hn hJw
  -- where a cell of the new world comes from
  have src : ∀ (i : Nat) (x : Nat × va_E), (mg ws J ws')[i]? = some x → (∃ k, ws'[k]? = some x ∧ bk J h.length k = some i) ∨ (sp J i = none ∧ ws[i]? = some x) := by
    intro i x hx
    rw [mw i] at hx
    by_cases hi : i < ws.length
    · rw [if_pos hi] at hx
      cases hs : sp J i with
      | none => rw [hs] at hx; exact Or.inr ⟨rfl, hx⟩
      | some k =>
        rw [hs] at hx
        have hkJ := sp_at hs
        exact Or.inl ⟨k, hx, by unfold bk; rw [if_pos (List.getElem?_eq_some_iff.mp hkJ).1]; exact hkJ⟩
    · rw [if_neg hi] at hx
      exact Or.inl ⟨J.length + (i - ws.length), hx, by unfold bk; rw [if_neg (by omega)]; congr 1; omega⟩
  have far : ∀ (i : Nat) (x : Nat × va_E), sp J i = none → ws[i]? = some x → x.1 < H.size ∧ ¬ A1 x.1 := fun i x hs hx => ⟨(hP i x hx).lt, hfar i x hs hx⟩
  refine ⟨⟨?_, ?_, fun i d hd => ?_⟩, fun i x hx => ?_, ⟨fun i j p q hp hq e => ?_, fun i x hx => ?_⟩, R⟩
  · rw [List.length_append, mg_len hcl, w1]
    have := congrArg List.length (rfl : asJ as J ++ t = asJ as J ++ t)
    rw [List.length_append, lJ] at v1
    omega
  · rw [mg_len hwl, mg_len hcl]
    omega
  · rw [mh i] at hd
    by_cases hi : i < h.length
    · rw [if_pos hi] at hd
      cases hs : sp J i with
      | none =>
        rw [hs] at hd
        obtain ⟨a, e, g1, g2, g3⟩ := w3 i d hd
        exact ⟨a, e, by rw [List.getElem?_append_left (by omega)]; exact g1, by rw [mw i, if_pos (by omega), hs]; exact g2, cr_app g3⟩
      | some k =>
        rw [hs] at hd
        obtain ⟨c0, g1, g2⟩ := c2 k d hd
        obtain ⟨a, e, g3, g4, g5⟩ := v3 k c0 g1
        have hkJ := sp_at hs
        have hbk : bk J h.length k = some i := by unfold bk; rw [if_pos (List.getElem?_eq_some_iff.mp hkJ).1]; exact hkJ
        refine ⟨a, e, R k i a hbk g3, by rw [mw i, if_pos (by omega), hs]; exact g4, cr_left ?_⟩
        have := rc_ok (u := []) R g2 g5
        rw [List.append_nil] at this
        exact this
    · rw [if_neg hi] at hd
      obtain ⟨c0, g1, g2⟩ := c2 _ d hd
      obtain ⟨a, e, g3, g4, g5⟩ := v3 _ c0 g1
      have hbk : bk J h.length (J.length + (i - h.length)) = some i := by unfold bk; rw [if_neg (by omega)]; congr 1; omega
      refine ⟨a, e, R _ i a hbk g3, by rw [mw i, if_neg (by omega), w2]; exact g4, cr_left ?_⟩
      have := rc_ok (u := []) R g2 g5
      rw [List.append_nil] at this
      exact this
  · rcases src i x hx with ⟨k, g1, -⟩ | ⟨g1, g2⟩
    · exact hP' k x g1
    · obtain ⟨f1, f2⟩ := far i x g1 g2
      exact (hP i x g2).kept (hk x.1 f1 f2)
  · rcases src i p hp with ⟨k, g1, b1⟩ | ⟨g1, g2⟩ <;> rcases src j q hq with ⟨k2, g3, b2⟩ | ⟨g3, g4⟩
    · have e1 := hD'.1 k k2 p q g1 g3 e
      subst e1
      exact Option.some.inj (b1.symm.trans b2)
    · exact absurd (by rw [← e]; exact hD'.2 k p g1) (far j q g3 g4).2
    · exact absurd (by rw [e]; exact hD'.2 k2 q g3) (far i p g1 g2).2
    · exact hD.1 i j p q g2 g4 e
  · rcases src i x hx with ⟨k, g1, -⟩ | ⟨g1, g2⟩
    · exact hA1 _ (hD'.2 k x g1)
    · exact hD.2 i x g2

section LW0
variable {D : va_G} {cl : List vw_C} {A : Nat → Prop} {s : State} {h : xH} {as : List Nat} {tys : List (ClassId × FieldType)} {ws : va_W} {H : Heap} {locs : List Loc}
/-- a part of the world is a world -/
theorem sg_sub (G : sg D cl A s h as tys ws H locs) {K : List Nat} {avs bvs cvs : List Value} {ds : xH} (hK : cutJ h avs K ds bvs) (ha : vrs as avs cvs) : sg D cl A s ds (asJ as K) tys (wsJ ws K) H locs ∧ vrs (asJ as K) bvs cvs := by
  obtain ⟨u1, u2, u3, u4⟩ := cutJ_wr G.1 hK ha
  obtain ⟨hw, hKn, hP, hD, hS, hA⟩ := G
  have hKw : ∀ j ∈ K, j < ws.length := fun j hj => by rw [hw.2.1]; exact u2 j hj
  exact ⟨⟨u3, hKn, wsJ_P hP hKw, wsJ_D u1 hD hKw, hS, hA⟩, u4⟩
/-- cells outside a part aren't the callee's -/
theorem far_of (G : sg D cl A s h as tys ws H locs) {J : List Nat} (hn : ndp J = true) (hJ : ∀ j ∈ J, j < h.length) (i : Nat) (x : Nat × va_E) (hs : sp J i = none) (hx : ws[i]? = some x) : ¬ va_A (wsJ ws J) H.size x.1 := by
  obtain ⟨hw, hKn, hP, hD, hS, hA⟩ := G
  have hJw : ∀ j ∈ J, j < ws.length := fun j hj => by rw [hw.2.1]; exact hJ j hj
  have hl := (hP i x hx).lt
  intro z
  rcases z with ⟨k, e, z⟩ | z
  · obtain ⟨j, g1, g2⟩ := wsJ_inv z hJw
    have e1 := hD.1 i j x (x.1, e) hx g2 rfl
    subst e1
    rw [sp_ofnd hn g1] at hs
    cases hs
  · omega
/-- .. the same, seen from another part -/
theorem far_sub (G : sg D cl A s h as tys ws H locs) {J K : List Nat} (hn : ndp J = true) (hJ : ∀ j ∈ J, j < h.length) (hK : ∀ j ∈ K, j < h.length) {J2 : List Nat} (hd : ∀ (i k : Nat), K[i]? = some k → sp J2 i = none → sp J k = none) (i : Nat) (x : Nat × va_E) (hs : sp J2 i = none) (hx : (wsJ ws K)[i]? = some x) : ¬ va_A (wsJ ws J) H.size x.1 := by
  have hKw : ∀ j ∈ K, j < ws.length := fun j hj => by rw [G.1.2.1]; exact hK j hj
  obtain ⟨k, g1, g2⟩ := wsJ_inv hx hKw
  exact far_of G hn hJ k x (hd i k g1 hs) g2
/-- the world stays where nothing of it was free -/
theorem sg_stay (G : sg D cl A s h as tys ws H locs) {A1 : Nat → Prop} {H1 : Heap} {L : List Loc} (hz : H.size ≤ H1.size) (hk : ∀ q : Nat, q < H.size → ¬ A1 q → H1[q]? = H[q]?) (hA1 : ∀ q, A1 q → A q) (hL : ∀ q ∈ L, A1 q.base) (hfar : ∀ (i : Nat) (x : Nat × va_E), ws[i]? = some x → ¬ A1 x.1) : sg D cl A s h as tys ws H1 (locs ++ L) := by
  obtain ⟨hw, hKn, hP, hD, hS, hA⟩ := G
  refine ⟨hw, hKn, hP.kept (fun k q hq => hk q.1 (hP k q hq).lt (hfar k q hq)), hD, ⟨Nat.le_trans hS.1 hz, fun q h1 h2 => ?_, fun q hq => ?_⟩, hA⟩
  · rw [hk q (Nat.lt_of_lt_of_le h1 hS.1) (fun z => h2 (hA1 q z))]
    exact hS.2.1 q h1 h2
  · rcases List.mem_append.mp hq with h | h
    · exact hS.2.2 q h
    · exact hA1 _ (hL q h)
end LW0
/-- nothing is told of the callee's cells -/
theorem xPost.drop {D : va_G} {cl : List vw_C} {A : Nat → Prop} {as : List Nat} {v : Option Value} {h : xH} {c n : Nat} {a : Array Value} {st : State} {oc : Outcome} {t : State} (hv : ∀ as' cv, ovr as' v cv → ovr [] v cv) (hp : xPost D cl A as (v, h, c, n) a st oc t) : xPost D cl A [] (v, [], c, n) a st oc t := by
  obtain ⟨⟨cv, as', tys', ws', h1, -, h3, -, h5, -, -⟩, hF⟩ := hp
  exact ⟨⟨cv, [], tys', [], h1, pre_rf, hv as' cv h3, ⟨rfl, rfl, fun i c hc => by simp at hc⟩, h5, fun k q hq => by simp at hq, ⟨fun i j x y hx => by simp at hx, fun k q hq => by simp at hq⟩⟩, hF⟩
section LW1
variable {p : Program} {l : Launch} {e : Env} {R : Room} {s : State} {m : MethodId} {args : Array Value} {below : List Frame} {meth : Method} {c : Code} {H : Heap} {locs : List Loc} {cells slots : Nat} {Q : State → Prop}
/-- behind a call on a part, where the callee was free to change more -/
theorem x_callG {D : va_G} {cl : List vw_C} {A A1 : Nat → Prop} {as : List Nat} {r1 : xR} {h cs : xH} {v : Option Value} {J : List Nat} {tys : List (ClassId × FieldType)} {ws : va_W} {pc mc ms : Nat} {ls : Array Slot} {st0 rest : List Value} {a : Array Value} (hr : va_Run p l e R s m args below meth c H locs cells slots mc ms (F0 m pc ls st0) rest (xPost D cl A1 (asJ as J) r1 a) A1) (G : sg D cl A s h as tys ws H locs) (hn : ndp J = true) (hJ : ∀ j ∈ J, j < h.length) (hJl : J.length ≤ r1.2.1.length) (hcs : rcs (bk J h.length) r1.2.1 = some cs) (hv : rvo (bk J h.length) r1.1 = some v) (hA1 : ∀ q, A1 q → A q) (hfar : ∀ (i : Nat) (x : Nat × va_E), sp J i = none → ws[i]? = some x → ¬ A1 x.1)
    (kk : ∀ (cv : Option Value) (as' : List Nat) (tys' : List (ClassId × FieldType)) (ws' : va_W) (H1 : Heap) (locs1 : List Loc), pre as as' → ovr as' v cv → sg D cl A s (mg h J cs) as' tys' ws' H1 locs1 → W p l e R s m args below meth c H1 locs1 (cells + mc) (slots + ms) Q (F0 m (pc + 3) ls (cv.toList ++ rest))) : W p l e R s m args below meth c H locs cells slots Q (F0 m pc ls st0) := by
  obtain ⟨hw, hK, hP, hD, hS, hA⟩ := G
  intro T hT X
  obtain ⟨w, st₀, t, T', L, h0, X', hL, e1, e2, ⟨⟨cv, as', tys', ws', hcv, ⟨tt, rfl⟩, g2, g3, g4, g5, g6⟩, hz, hk⟩, st⟩ := hr T hT X
  cases hcv
  rw [h0] at hz hk
  have hal : s.vm.Alike t.vm := by rw [← e2]; exact X'.warmed.alike
  obtain ⟨n1, n2, n3, n4⟩ := mg_worldG (H1 := t.heap) hw hP hD hn hJ g3 hJl hcs g5 g6 hk hA1 hfar
  obtain ⟨t2, a1, b1⟩ := kk w (as ++ tt) (tys ++ tys') (mg ws J ws') T'.heap (locs ++ L) ⟨tt, rfl⟩ (ovr_ren n4 hv g2) ⟨n1, hK.app (va_K.moved hal.symm g4), by rw [e1]; exact n2, n3, ⟨Nat.le_trans hS.1 (by rw [e1]; exact hz), fun q h1 h2 => by rw [e1, hk q (Nat.lt_of_lt_of_le h1 hS.1) (fun z => h2 (hA1 q z))]; exact hS.2.1 q h1 h2, fun q hq => by
      rcases List.mem_append.mp hq with h | h
      · exact hS.2.2 q h
      · exact hA1 _ (hL q h)⟩, hA⟩ T' rfl X'
  exact ⟨t2, st t2 a1, b1⟩
/-- a call's run, its end weakened -/
theorem va_Run.weak {mc ms : Nat} {g : JFrame} {rest : List Value} {Qa Qb : State → Outcome → State → Prop} {free : Addr → Prop} (hr : va_Run p l e R s m args below meth c H locs cells slots mc ms g rest Qa free) (h : ∀ st o t, Qa st o t → Qb st o t) : va_Run p l e R s m args below meth c H locs cells slots mc ms g rest Qb free := by
  intro T hT X
  obtain ⟨v, st₀, t, T', L, h0, X', hL, e1, e2, hq, st⟩ := hr T hT X
  exact ⟨v, st₀, t, T', L, h0, X', hL, e1, e2, h _ _ _ hq, st⟩
theorem callSW {T : State} (X : Stand p l e R s m args below meth c T locs cells slots) (hexec : p.tables.exec = Jvm.exec) {own : String} {index : Nat} {y : MethodName} {bytes : ByteArray} {maxL : Nat} {ret : Option FieldType} {hh : List (Nat × Nat × Nat × Nat)}
    (hown : s.vm.findClass own = some m.cls) (hlink : (Cond.methodLink own index y).before args s = true) (hstat : (Cond.static y).before args s = true) (hinit : (Cond.initialized y.cls).before args s = true)
    (hcode : (Cond.codeWith y bytes maxL ret hh).before args s = true) (hy : y.cls ≠ "java/lang/invoke/MethodHandle" ∧ y.cls ≠ "java/lang/invoke/VarHandle")
    {W : Nat} {Pre : Pt → Array Value → Prop} {Post : Pt → Array Value → Option Value → Pt → Prop} (hK : Back l R p e below s args y 3 W Pre Post)
    {g : JFrame} (hg : g.method = m) (hsize : g.locals.size = c.maxLocals) {argsL rest : List Value} (hlen : ∀ sig, parseMethodDescriptor y.desc = some sig → argsL.length = sig.parameters.length)
    (hstack : g.stack = argsL.reverse ++ rest) (hW : 2 * g.monitorRoom + (rest.map fun v => v.category).sum ≤ W) (hdg : decode c.code g.pc = .ok (.invokestatic index, 3))
    (hpre : ∀ vm₁, s.WarmedH vm₁ → Pre ⟨T.setVm vm₁, locs, cells, slots⟩ argsL.toArray) :
    ∃ (v : Option Value) (vm₁ : Vm) (B : Pt), s.WarmedH vm₁ ∧ Stand p l e R s m args below meth c B.U B.locs B.cells B.slots ∧ Post ⟨T.setVm vm₁, locs, cells, slots⟩ argsL.toArray v B ∧
      ∀ target, Steps p.tables e below (B.U.setTop { g with pc := g.pc + 3, stack := v.toList ++ rest }) target → Steps p.tables e below (T.setTop g) target := by
  obtain ⟨mk, methM, cM, hnamed, hmethM, -, -, -, -, -, -, hsigM⟩ := Cond.codeWith_spec hcode
  have hstatic : methM.isStatic = true := Cond.static_spec hnamed hmethM hstat
  obtain ⟨kP, hkP, -⟩ := className_of_methodNamed hnamed
  have hinitP : kP.init = .initialized := Cond.initialized_spec (findClass_of_methodNamed hnamed) hkP hinit
  obtain ⟨vm₁, X₁, hstep₁⟩ := X.invokestatic hexec hown hlink hnamed hmethM hstatic hkP hinitP hy (g := g) hg (argsL := argsL) (rest := rest) (hlen _ hsigM) hstack hdg
  obtain ⟨v, B, X', hpost, hsteps⟩ := hK m meth c ⟨T.setVm vm₁, locs, cells, slots⟩ { g with stack := rest } (.invokestatic index) mk argsL.toArray X₁ hg hsize hdg hW (X₁.named hnamed) (hpre vm₁ X₁.warmed)
  exact ⟨v, vm₁, B, X₁.warmed, X', hpost, fun target h => hstep₁ _ fun acts => by rw [doInvoke_state]; exact hsteps.trans h⟩
/-- invokestatic of a method that has handlers -/
theorem va_runSW {y : MethodName} {bytes cc : ByteArray} {maxL nL mc ms index : Nat} {ret : Option FieldType} {hh : List (Nat × Nat × Nat × Nat)} {ws : List Cond} {rm : Room} {Pc : Array Value → State → Prop} {Qc : Array Value → State → Outcome → State → Prop} {free : Addr → Prop} {own : String} {As rest : List Value} {g : JFrame}
    (hx : p.tables.exec = Jvm.exec) (hb : c.code = cc) (hml : c.maxLocals = nL) (ho : s.vm.findClass own = some m.cls) (hM : Met l y ws rm Pc Qc mc ms free) (hrc : rm.cells = mc) (hrs : rm.slots = ms) (hfr : rm.frames + 1 ≤ R.frames) (hlo : 8 + (maxL + 11) + rm.locals ≤ R.locals) (hws : ∀ w ∈ ws, ∀ (a' : Array Value) (U : State), s.WarmedH U.vm → w.before a' U = true) (hcw : Cond.codeWith y bytes maxL ret hh ∈ ws)
    (hini : (Cond.initialized y.cls).before args s = true) (hl : (Cond.methodLink own index y).before args s = true) (hstt : (Cond.static y).before args s = true) (hcode : (Cond.codeWith y bytes maxL ret hh).before args s = true) (hy : y.cls ≠ "java/lang/invoke/MethodHandle" ∧ y.cls ≠ "java/lang/invoke/VarHandle") (hlen : ∀ sig, parseMethodDescriptor y.desc = some sig → As.length = sig.parameters.length) (hp : PreS s H Pc As)
    (hg : g.method = m) (hsize : g.locals.size = nL) (hstack : g.stack = As.reverse ++ rest) (hW : 2 * g.monitorRoom + (rest.map fun v => v.category).sum ≤ 8) (hdg : decode cc g.pc = .ok (.invokestatic index, 3)) (hf : cells + mc ≤ R.cells ∧ slots + ms ≤ R.slots) :
    va_Run p l e R s m args below meth c H locs cells slots mc ms g rest (Qc As.toArray) (free) := by
  have hK : Back l R p e below s args y 3 8 (PreOf R mc ms Pc) (PostOf Qc mc ms free) := va_backW (hh := hh) (bytes := bytes) (maxL := maxL) (ret := ret) hM hp.1 hrc hrs hfr hlo hws hcw (fun a' U hW => word_at hW (Or.inl (by first | rfl | simp [Cond.onTables, Cond.keeps, Cond.steady])) hini)
  intro T hT X
  obtain ⟨v, vm₁, ⟨U', l2, c2, s2⟩, hW₁, X', ⟨g', mk, t, L, e1, e2, hq, h1, hL, h2, h3⟩, st⟩ := callSW X hx (hh := hh) (bytes := bytes) (maxL := maxL) (ret := ret) ho hl hstt hini hcode hy hK hg (hsize.trans hml.symm) (argsL := As) (rest := rest) hlen hstack hW (by rw [hb]; exact hdg)
    (fun vm₁ hW₁ => ⟨hf.1, hf.2, hp.2 (T.setVm vm₁) hT hW₁⟩)
  dsimp only [Pt.U, Pt.locs, Pt.cells, Pt.slots] at X' e1 e2 h1 h2 h3 st
  subst h1; subst h2; subst h3
  exact ⟨v, (T.setVm vm₁).calling g' mk As.toArray, t, U', L, hT, X', hL, e1, e2, hq, st⟩
end LW1
