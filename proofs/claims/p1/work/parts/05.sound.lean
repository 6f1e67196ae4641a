/-! what x_hs does, the machine does -/
def pre (as as' : List Nat) : Prop := ∃ t, as' = as ++ t
theorem pre_rf {as : List Nat} : pre as as := ⟨[], (List.append_nil as).symm⟩
theorem pre_1 {as : List Nat} (q : Nat) : pre as (as ++ [q]) := ⟨[q], rfl⟩
theorem pre_tr {a b c : List Nat} (h : pre a b) (h2 : pre b c) : pre a c := by
  obtain ⟨t, rfl⟩ := h
  obtain ⟨u, rfl⟩ := h2
  exact ⟨t ++ u, List.append_assoc _ _ _⟩
theorem vr_pre {as as' : List Nat} {v w : Value} (h : pre as as') (h2 : vr as v w) : vr as' v w := by
  obtain ⟨t, rfl⟩ := h; exact vr_app h2
theorem vrs_pre {as as' : List Nat} {v w : List Value} (h : pre as as') (h2 : vrs as v w) : vrs as' v w := by
  obtain ⟨t, rfl⟩ := h; exact vrs_app h2
theorem lrs_pre {as as' : List Nat} {v w : xL} (h : pre as as') (h2 : lrs as v w) : lrs as' v w := by
  obtain ⟨t, rfl⟩ := h; exact lrs_app h2
/-- the classes' tables fit -/
def okC (X : xProg) (TB : List Cond) (cl : List vw_C) : Prop := (∀ (ci : Nat) (C : String) (T : u_T) (N : Nat), cl[ci]? = some (C, T, N) → N = xnf X ci ∧ (∀ w ∈ u_ws C T N, w ∈ TB) ∧ Cond.instantiable C N ∈ TB ∧ Cond.initialized C ∈ TB ∧ (∀ k, k < N → parseFieldDescriptor (T k).2.2.1 = some (xft X ci k)) ∧ (∀ a, a < N → ∀ b, b < N → a ≠ b → (T a).2.1 ≠ (T b).2.1) ∧ (∀ j, j < N → defaultValue (xft X ci j) = vp_V (xdf X ci) j) ∧ (∀ as, vrs as (xdf X ci) (xdf X ci)) ∧ xcn X ci = C) ∧
  Cond.arrayClass .int ∈ TB ∧ Cond.arrayClass .char ∈ TB ∧ Cond.arrayClass .boolean ∈ TB ∧ Cond.arrayClass .long ∈ TB
/-- a method's tables fit -/
def okX (X : xProg) (TB : List Cond) (cl : List vw_C) (aos : List String) (own nm : String) (mi : Nat) (cc : ByteArray) : Prop :=
  (∀ pc i, xdec X mi pc = some i → decode cc pc = .ok (i, x_len i)) ∧
  (∀ idx ci k, xfld X mi idx = some (ci, k) → ∃ (C : String) (T : u_T) (N : Nat), cl[ci]? = some (C, T, N) ∧ (k < N → Cond.fieldLink own idx (T k).1 (T k).2.1 (T k).2.2.1 ∈ TB ∧ (xput X mi idx = true → ((T k).2.2.2 = false ∨ ((T k).2.2.2 = true ∧ nm = "<init>" ∧ (T k).1 = own))))) ∧
  (∀ idx ci, xcls X mi idx = some ci → ∃ (C : String) (T : u_T) (N : Nat), cl[ci]? = some (C, T, N) ∧ Cond.classLink own idx C ∈ TB) ∧
  (∀ idx C, xarr X mi idx = some C → Cond.classLink own idx C ∈ TB ∧ C ∈ aos) ∧
  (∀ idx v, xki X mi idx = some v → Cond.constant own idx v ∈ TB) ∧ (∀ idx v, xkl X mi idx = some v → Cond.constantLong own idx v ∈ TB)
theorem sg_cl {D : va_G} {cl : List vw_C} {A : Nat → Prop} {s : State} {h : xH} {as : List Nat} {tys : List (ClassId × FieldType)} {ws : va_W} {H : Heap} {locs : List Loc} (G : sg D cl A s h as tys ws H locs) {a ci : Nat} {vs : List Value} (hh : h[a]? = some (.inl (ci, vs))) : ∃ r, cl[ci]? = some r := by
  obtain ⟨hw, hK, hP, hD, hS, hA⟩ := G
  obtain ⟨a', e', g1, g2, w, rfl, g3⟩ := hw.2.2 a _ hh
  obtain ⟨r, h1, -⟩ := hP a _ g2
  exact ⟨r, h1⟩
theorem sg_len {D : va_G} {cl : List vw_C} {A : Nat → Prop} {s : State} {h : xH} {as : List Nat} {tys : List (ClassId × FieldType)} {ws : va_W} {H : Heap} {locs : List Loc} (G : sg D cl A s h as tys ws H locs) (q : Nat) : (as ++ [q])[h.length]? = some q := by
  rw [← G.1.1, List.getElem?_append_right (Nat.le_refl _), Nat.sub_self]; rfl
theorem sg_inj {D : va_G} {cl : List vw_C} {A : Nat → Prop} {s : State} {h : xH} {as : List Nat} {tys : List (ClassId × FieldType)} {ws : va_W} {H : Heap} {locs : List Loc} (G : sg D cl A s h as tys ws H locs) {i j a : Nat} (hi : as[i]? = some a) (hj : as[j]? = some a) : i = j := by
  obtain ⟨hw, hK, hP, hD, hS, hA⟩ := G
  have li : i < h.length := by rw [← hw.1]; exact (List.getElem?_eq_some_iff.mp hi).1
  have lj : j < h.length := by rw [← hw.1]; exact (List.getElem?_eq_some_iff.mp hj).1
  obtain ⟨a1, e1, g1, g2, -⟩ := hw.2.2 i _ (List.getElem?_eq_getElem li)
  obtain ⟨a2, e2, g3, g4, -⟩ := hw.2.2 j _ (List.getElem?_eq_getElem lj)
  have q1 : a1 = a := Option.some.inj (g1.symm.trans hi)
  have q2 : a2 = a := Option.some.inj (g3.symm.trans hj)
  subst q1
  subst q2
  exact hD.1 i j _ _ g2 g4 rfl
section XHS
variable {p : Program} {l : Launch} {e : Env} {R : Room} {s : State} {m : MethodId} {args : Array Value} {below : List Frame} {meth : Method} {c : Code} {H : Heap} {locs : List Loc} {cells slots : Nat} {Q : State → Prop}
variable {cc : ByteArray} {pc : Nat} {ls : Array Slot} {D : va_G} {cl : List vw_C} {A : Nat → Prop} {tys : List (ClassId × FieldType)} {ws : va_W} {h : xH} {as : List Nat} {lv clv : xL} {st cst : List Value}
set_option maxHeartbeats 4000000 in
theorem x_hs_ok {X : xProg} {TB : List Cond} {aos : List String} {own nm : String} {mi : Nat} (hx : p.tables.exec = Jvm.exec) (hb : c.code = cc) (hts : ∀ w ∈ TB, w.before args s = true) (hown : s.vm.findClass own = some m.cls) (hnm : meth.name = nm) (oC : okC X TB cl) (oX : okX X TB cl aos own nm mi cc) (hao : ∀ C ∈ aos, va_AO C s)
    {i : Instr} (hd : decode cc pc = .ok (i, x_len i)) {o : xQ} (hh : x_hs X mi i pc lv st h = some o) (hl : lv_has ls (xml X mi) clv) (hlr : lrs as lv clv) (hst : vrs as st cst) (G : sg D cl A s h as tys ws H locs) (hcells : cells + o.2.2.1 ≤ R.cells) (hslots : slots + o.2.2.2 ≤ R.slots)
    (k : ∀ (as' : List Nat) (ls' : Array Slot) (clv' : xL) (cst' : List Value) (tys' : List (ClassId × FieldType)) (ws' : va_W) (H' : Heap) (locs' : List Loc), pre as as' → lv_has ls' (xml X mi) clv' → lrs as' o.1.2.1 clv' → vrs as' o.1.2.2 cst' → sg D cl A s o.2.1 as' tys' ws' H' locs' → W p l e R s m args below meth c H' locs' (cells + o.2.2.1) (slots + o.2.2.2) Q (F0 m o.1.1 ls' cst')) : W p l e R s m args below meth c H locs cells slots Q (F0 m pc ls cst) := by
  have dflt : x_hs X mi i pc lv st h = (x_op (xml X mi) i pc lv st).map (fun o => (o, h, 0, 0)) → W p l e R s m args below meth c H locs cells slots Q (F0 m pc ls cst) := by
    intro e1
    rw [e1] at hh
    cases ho : x_op (xml X mi) i pc lv st with
    | none => rw [ho] at hh; cases hh
    | some o1 =>
      rw [ho] at hh
      cases hh
      exact x_op_ok hx hb hd ho hl hlr hst (fun ls' clv' cst' a1 a2 a3 => k as ls' clv' cst' tys ws H locs pre_rf a1 a2 a3 G)
  cases i with
  | getfield idx =>
    obtain ⟨a, r, rfl, h1⟩ := y_r_v hh
    obtain ⟨ci, vs, h2, h3⟩ := h_o_v h1
    cases hf : xfld X mi idx with
    | none => rw [hf] at h3; cases h3
    | some q =>
      rw [hf] at h3
      obtain ⟨h4, h5⟩ := x_ck_v h3
      rw [Bool.and_eq_true] at h4
      obtain ⟨h6, h7⟩ := h4
      have h6 : q.1 = ci := Nat.eq_of_beq_eq_true h6
      cases hv : vs[q.2]? with
      | none => rw [hv] at h5; cases h5
      | some v =>
        rw [hv] at h5
        cases h5
        obtain ⟨aa, r', rfl, g1, g2⟩ := vrs_r hst
        obtain ⟨C, T, N, g3, g4⟩ := oX.2.1 idx q.1 q.2 hf
        obtain ⟨g5, g6, -⟩ := oC.1 q.1 C T N g3
        have hk : q.2 < N := by rw [g5]; exact Nat.le_of_ble_eq_true h7
        exact sg_get hx hb hts g6 hown G g1 (by rw [h6]; exact h2) g3 q.2 hk (hts _ (g4 hk).1) (fun _ z => z) hv hd (fun w hw => k as ls clv _ tys ws H locs pre_rf hl hlr (vrs_cv hw g2) G)
  | putfield idx =>
    obtain ⟨v, st1, rfl, h0⟩ := y_v_v hh
    obtain ⟨a, r, rfl, h1⟩ := y_r_v h0
    obtain ⟨ci, vs, h2, h3⟩ := h_o_v h1
    cases hf : xfld X mi idx with
    | none => rw [hf] at h3; cases h3
    | some q =>
      rw [hf] at h3
      obtain ⟨h4, h5⟩ := x_ck_v h3
      simp only [Bool.and_eq_true] at h4
      obtain ⟨h6, h7, h8, h9, h10, h11⟩ := h4
      have h6 : q.1 = ci := Nat.eq_of_beq_eq_true h6
      cases h5
      obtain ⟨w, r0, rfl, g0, g00⟩ := vrs_v hst
      obtain ⟨aa, r', rfl, g1, g2⟩ := vrs_r g00
      obtain ⟨C, T, N, g3, g4⟩ := oX.2.1 idx q.1 q.2 hf
      obtain ⟨g5, g6, -, -, g7, g8, -⟩ := oC.1 q.1 C T N g3
      have hk : q.2 < N := by rw [g5]; exact Nat.le_of_ble_eq_true h7
      subst h6
      exact sg_put hx hb hts g6 (xft X q.1) g7 g8 hown G g1 h2 g3 q.2 hk (hts _ (g4 hk).1) (fun _ z => z) (by rw [hnm]; exact (g4 hk).2 h11) g0 (by simpa using h9) h10 (Nat.le_of_ble_eq_true h8) hd (fun ws1 H1 locs1 G1 => k as ls clv _ tys ws1 H1 locs1 pre_rf hl hlr g2 G1)
  | iaload =>
    obtain ⟨j, st1, rfl, h0⟩ := y_i_v hh
    obtain ⟨a, r, rfl, h1⟩ := y_r_v h0
    obtain ⟨x, h2, h3⟩ := h_i_v h1
    obtain ⟨h4, h5⟩ := x_ck_v h3
    cases h5
    obtain ⟨r0, rfl, g0⟩ := vrs_i hst
    obtain ⟨aa, r', rfl, g1, g2⟩ := vrs_r g0
    exact sg_iald hx hb G g1 h2 (x_in_ok h4) hd (k as ls clv _ tys ws H locs pre_rf hl hlr (vrs_ci g2) G)
  | caload =>
    obtain ⟨j, st1, rfl, h0⟩ := y_i_v hh
    obtain ⟨a, r, rfl, h1⟩ := y_r_v h0
    obtain ⟨x, h2, h3⟩ := h_i_v h1
    obtain ⟨h4, h5⟩ := x_ck_v h3
    cases h5
    obtain ⟨r0, rfl, g0⟩ := vrs_i hst
    obtain ⟨aa, r', rfl, g1, g2⟩ := vrs_r g0
    exact sg_cald hx hb G g1 h2 (x_in_ok h4) hd (k as ls clv _ tys ws H locs pre_rf hl hlr (vrs_ci g2) G)
  | baload =>
    obtain ⟨j, st1, rfl, h0⟩ := y_i_v hh
    obtain ⟨a, r, rfl, h1⟩ := y_r_v h0
    obtain ⟨x, h2, h3⟩ := h_i_v h1
    obtain ⟨h4, h5⟩ := x_ck_v h3
    cases h5
    obtain ⟨r0, rfl, g0⟩ := vrs_i hst
    obtain ⟨aa, r', rfl, g1, g2⟩ := vrs_r g0
    exact sg_zald hx hb G g1 h2 (x_in_ok h4) hd (k as ls clv _ tys ws H locs pre_rf hl hlr (vrs_ci g2) G)
  | laload =>
    obtain ⟨j, st1, rfl, h0⟩ := y_i_v hh
    obtain ⟨a, r, rfl, h1⟩ := y_r_v h0
    obtain ⟨x, h2, h3⟩ := h_l_v h1
    obtain ⟨h4, h5⟩ := x_ck_v h3
    cases h5
    obtain ⟨r0, rfl, g0⟩ := vrs_i hst
    obtain ⟨aa, r', rfl, g1, g2⟩ := vrs_r g0
    exact sg_lald hx hb G g1 h2 (x_in_ok h4) hd (k as ls clv _ tys ws H locs pre_rf hl hlr (vrs_cl g2) G)
  | aaload =>
    obtain ⟨j, st1, rfl, h0⟩ := y_i_v hh
    obtain ⟨a, r, rfl, h1⟩ := y_r_v h0
    obtain ⟨C, x, h2, h3⟩ := h_q_v h1
    obtain ⟨h4, h5⟩ := x_ck_v h3
    cases h5
    obtain ⟨r0, rfl, g0⟩ := vrs_i hst
    obtain ⟨aa, r', rfl, g1, g2⟩ := vrs_r g0
    exact sg_aald hx hb G g1 h2 (x_in_ok h4) hd (fun w hw => k as ls clv _ tys ws H locs pre_rf hl hlr (vrs_cv hw g2) G)
  | iastore =>
    obtain ⟨y, st2, rfl, h00⟩ := y_i_v hh
    obtain ⟨j, st1, rfl, h0⟩ := y_i_v h00
    obtain ⟨a, r, rfl, h1⟩ := y_r_v h0
    obtain ⟨x, h2, h3⟩ := h_i_v h1
    obtain ⟨h4, h5⟩ := x_ck_v h3
    cases h5
    obtain ⟨r1, rfl, g00⟩ := vrs_i hst
    obtain ⟨r0, rfl, g0⟩ := vrs_i g00
    obtain ⟨aa, r', rfl, g1, g2⟩ := vrs_r g0
    exact sg_iast hx hb G g1 h2 (x_in_ok h4) hd (fun ws1 H1 locs1 G1 => k as ls clv _ tys ws1 H1 locs1 pre_rf hl hlr g2 G1)
  | castore =>
    obtain ⟨y, st2, rfl, h00⟩ := y_i_v hh
    obtain ⟨j, st1, rfl, h0⟩ := y_i_v h00
    obtain ⟨a, r, rfl, h1⟩ := y_r_v h0
    obtain ⟨x, h2, h3⟩ := h_i_v h1
    obtain ⟨h4, h5⟩ := x_ck_v h3
    cases h5
    obtain ⟨r1, rfl, g00⟩ := vrs_i hst
    obtain ⟨r0, rfl, g0⟩ := vrs_i g00
    obtain ⟨aa, r', rfl, g1, g2⟩ := vrs_r g0
    exact sg_cast hx hb G g1 h2 (x_in_ok h4) hd (fun ws1 H1 locs1 G1 => k as ls clv _ tys ws1 H1 locs1 pre_rf hl hlr g2 G1)
  | bastore =>
    obtain ⟨y, st2, rfl, h00⟩ := y_i_v hh
    obtain ⟨j, st1, rfl, h0⟩ := y_i_v h00
    obtain ⟨a, r, rfl, h1⟩ := y_r_v h0
    obtain ⟨x, h2, h3⟩ := h_i_v h1
    obtain ⟨h4, h5⟩ := x_ck_v h3
    cases h5
    obtain ⟨r1, rfl, g00⟩ := vrs_i hst
    obtain ⟨r0, rfl, g0⟩ := vrs_i g00
    obtain ⟨aa, r', rfl, g1, g2⟩ := vrs_r g0
    exact sg_zast hx hb G g1 h2 (x_in_ok h4) hd (fun ws1 H1 locs1 G1 => k as ls clv _ tys ws1 H1 locs1 pre_rf hl hlr g2 G1)
  | lastore =>
    obtain ⟨y, st2, rfl, h00⟩ := y_l_v hh
    obtain ⟨j, st1, rfl, h0⟩ := y_i_v h00
    obtain ⟨a, r, rfl, h1⟩ := y_r_v h0
    obtain ⟨x, h2, h3⟩ := h_l_v h1
    obtain ⟨h4, h5⟩ := x_ck_v h3
    cases h5
    obtain ⟨r1, rfl, g00⟩ := vrs_l hst
    obtain ⟨r0, rfl, g0⟩ := vrs_i g00
    obtain ⟨aa, r', rfl, g1, g2⟩ := vrs_r g0
    exact sg_last hx hb G g1 h2 (x_in_ok h4) hd (fun ws1 H1 locs1 G1 => k as ls clv _ tys ws1 H1 locs1 pre_rf hl hlr g2 G1)
  | aastore =>
    obtain ⟨q, st2, rfl, h00⟩ := y_r_v hh
    obtain ⟨j, st1, rfl, h0⟩ := y_i_v h00
    obtain ⟨a, r, rfl, h1⟩ := y_r_v h0
    obtain ⟨C, x, h2, h3⟩ := h_q_v h1
    obtain ⟨ci, vs, h4, h5⟩ := h_o_v h3
    obtain ⟨h6, h7⟩ := x_ck_v h5
    rw [Bool.and_eq_true] at h6
    have h8 : xcn X ci = C := by simpa using h6.2
    cases h7
    obtain ⟨b, r1, rfl, g3, g00⟩ := vrs_r hst
    obtain ⟨r0, rfl, g0⟩ := vrs_i g00
    obtain ⟨aa, r', rfl, g1, g2⟩ := vrs_r g0
    obtain ⟨⟨C', T, N⟩, g5⟩ := sg_cl G h4
    have g6 : xcn X ci = C' := (oC.1 ci C' T N g5).2.2.2.2.2.2.2.2
    have g7 : C' = C := g6.symm.trans h8
    subst g7
    exact sg_aast (r := (C', T, N)) hx hb G g1 h2 g3 h4 g5 (x_in_ok h6.1) hd (fun ws1 H1 locs1 G1 => k as ls clv _ tys ws1 H1 locs1 pre_rf hl hlr g2 G1)
  | if_acmp q off =>
    obtain ⟨j, st1, rfl, h0⟩ := y_r_v hh
    obtain ⟨i, r, rfl, h1⟩ := y_r_v h0
    obtain ⟨b, r1, rfl, g3, g00⟩ := vrs_r hst
    obtain ⟨a, r', rfl, g1, g2⟩ := vrs_r g00
    cases ht : x_tg pc off with
    | none => rw [ht] at h1; cases h1
    | some t =>
      rw [ht, Option.bind_some] at h1
      cases h1
      have k := k as ls clv r' tys ws H locs pre_rf hl hlr g2 G
      have inj : a = b ↔ Nat.beq i j = true := ⟨fun e1 => by rw [sg_inj G g1 (by rw [e1]; exact g3)]; exact Nat.beq_refl _, fun e1 => by
        have e2 := Nat.eq_of_beq_eq_true e1
        rw [e2] at g1
        exact Option.some.inj (g1.symm.trans g3)⟩
      cases q with
      | eq =>
        refine lv_acmp_eq (rx := some a) (ry := some b) hx hb hd (x_tg_ok ht) (fun z => ?_) (fun z => ?_)
        · have z1 : Nat.beq i j = true := inj.mp (Option.some.inj z)
          simpa only [z1, cond_true, Nat.add_zero] using k
        · have z1 : Nat.beq i j = false := by
            cases hb2 : Nat.beq i j
            · rfl
            · exact absurd (by rw [inj.mpr hb2]) z
          simpa only [z1, cond_false, Nat.add_zero] using k
      | ne =>
        refine lv_acmp_ne (rx := some a) (ry := some b) hx hb hd (x_tg_ok ht) (fun z => ?_) (fun z => ?_)
        · have z1 : Nat.beq i j = false := by
            cases hb2 : Nat.beq i j
            · rfl
            · exact absurd (by rw [inj.mpr hb2]) z
          simpa only [z1, Bool.not_false, cond_true, Nat.add_zero] using k
        · have z1 : Nat.beq i j = true := inj.mp (Option.some.inj z)
          simpa only [z1, Bool.not_true, cond_false, Nat.add_zero] using k
  | arraylength =>
    obtain ⟨a, r, rfl, h1⟩ := y_r_v hh
    obtain ⟨aa, r', rfl, g1, g2⟩ := vrs_r hst
    split at h1
    · next t x e1 => cases h1; exact sg_alen hx hb G g1 e1 rfl hd (k as ls clv _ tys ws H locs pre_rf hl hlr (vrs_ci g2) G)
    · next t x e1 => cases h1; exact sg_alen hx hb G g1 e1 rfl hd (k as ls clv _ tys ws H locs pre_rf hl hlr (vrs_ci g2) G)
    · next t x e1 => cases h1; exact sg_alen hx hb G g1 e1 rfl hd (k as ls clv _ tys ws H locs pre_rf hl hlr (vrs_ci g2) G)
    · cases h1
  | new idx =>
    have hh : (xcls X mi idx).bind (fun ci => fN h.length (fun n => some ((pc + 3, lv, .ref n :: st), h ++ [.inl (ci, xdf X ci)], 1, xnf X ci))) = some o := hh
    cases hf : xcls X mi idx with
    | none => rw [hf] at hh; cases hh
    | some ci =>
      rw [hf, Option.bind_some, fN_eq] at hh
      cases hh
      obtain ⟨C, T, N, g3, g4⟩ := oX.2.2.1 idx ci hf
      obtain ⟨g5, g6, g7, g8, g9, -, g10, g11, -⟩ := oC.1 ci C T N g3
      subst g5
      exact sg_new hx hb hts g6 (xft X ci) g9 hown (hts _ g4) (hts _ g7) (hts _ g8) G g3 g10 g11 hcells hslots hd (fun q ws1 H1 G1 => k (as ++ [q]) ls clv _ tys ws1 H1 locs (pre_1 q) hl (lrs_more q hlr) (vrs_cr (sg_len G q) (vrs_more q hst)) G1)
  | newarray at_ =>
    obtain ⟨n, r, rfl, h1⟩ := y_i_v hh
    obtain ⟨h2, h3⟩ := x_ck_v h1
    rw [Bool.and_eq_true] at h2
    have h4 : ¬ n < 0 := by simpa using h2.1
    have h5 : n.toNatClampNeg ≤ 67108864 := Nat.le_of_ble_eq_true h2.2
    obtain ⟨r0, rfl, g0⟩ := vrs_i hst
    cases at_ with
    | int => simp only [fN_eq] at h3; cases h3; exact sg_newa_int hx hb (hts _ oC.2.1) G h4 rfl (by simp only [componentBytes]; omega) hcells hslots hd (fun q tys1 ws1 H1 G1 => k (as ++ [q]) ls clv _ tys1 ws1 H1 locs (pre_1 q) hl (lrs_more q hlr) (vrs_cr (sg_len G q) (vrs_more q g0)) G1)
    | char => simp only [fN_eq] at h3; cases h3; exact sg_newa_char hx hb (hts _ oC.2.2.1) G h4 rfl (by simp only [componentBytes]; omega) hcells hslots hd (fun q tys1 ws1 H1 G1 => k (as ++ [q]) ls clv _ tys1 ws1 H1 locs (pre_1 q) hl (lrs_more q hlr) (vrs_cr (sg_len G q) (vrs_more q g0)) G1)
    | boolean => simp only [fN_eq] at h3; cases h3; exact sg_newa_boolean hx hb (hts _ oC.2.2.2.1) G h4 rfl (by simp only [componentBytes]; omega) hcells hslots hd (fun q tys1 ws1 H1 G1 => k (as ++ [q]) ls clv _ tys1 ws1 H1 locs (pre_1 q) hl (lrs_more q hlr) (vrs_cr (sg_len G q) (vrs_more q g0)) G1)
    | long => simp only [fN_eq] at h3; cases h3; exact sg_newa_long hx hb (hts _ oC.2.2.2.2) G h4 rfl (by simp only [componentBytes]; omega) hcells hslots hd (fun q tys1 ws1 H1 G1 => k (as ++ [q]) ls clv _ tys1 ws1 H1 locs (pre_1 q) hl (lrs_more q hlr) (vrs_cr (sg_len G q) (vrs_more q g0)) G1)
    | _ => cases h3
  | anewarray idx =>
    obtain ⟨n, r, rfl, h1⟩ := y_i_v hh
    obtain ⟨h2, h3⟩ := x_ck_v h1
    rw [Bool.and_eq_true] at h2
    have h4 : ¬ n < 0 := by simpa using h2.1
    have h5 : n.toNatClampNeg ≤ 67108864 := Nat.le_of_ble_eq_true h2.2
    obtain ⟨r0, rfl, g0⟩ := vrs_i hst
    cases hf : xarr X mi idx with
    | none => rw [hf] at h3; cases h3
    | some C =>
      rw [hf, Option.bind_some, fN_eq] at h3
      cases h3
      obtain ⟨g3, g4⟩ := oX.2.2.2.1 idx C hf
      exact sg_newq hx hb hown (hts _ g3) (hao C g4) G h4 rfl (by omega) hcells hslots hd (fun q tys1 ws1 H1 G1 => k (as ++ [q]) ls clv _ tys1 ws1 H1 locs (pre_1 q) hl (lrs_more q hlr) (vrs_cr (sg_len G q) (vrs_more q g0)) G1)
  | ldc idx =>
    have hh : (xki X mi idx).bind (fun v => some ((pc + 2, lv, .int v :: st), h, 0, 0)) = some o := hh
    cases hf : xki X mi idx with
    | none => rw [hf] at hh; cases hh
    | some v =>
      rw [hf] at hh
      cases hh
      exact lv_ldc hx hb hown (hts _ (oX.2.2.2.2.1 idx v hf)) hd (k as ls clv _ tys ws H locs pre_rf hl hlr (vrs_ci hst) G)
  | ldc2_w idx =>
    have hh : (xkl X mi idx).bind (fun v => some ((pc + 3, lv, .long v :: st), h, 0, 0)) = some o := hh
    cases hf : xkl X mi idx with
    | none => rw [hf] at hh; cases hh
    | some v =>
      rw [hf] at hh
      cases hh
      exact lv_ldc2 hx hb hown (hts _ (oX.2.2.2.2.2 idx v hf)) hd (k as ls clv _ tys ws H locs pre_rf hl hlr (vrs_cl hst) G)
  | _ => exact dflt rfl
end XHS
