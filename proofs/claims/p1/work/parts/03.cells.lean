/-! cells here and there -/
abbrev xC : Type := (Nat × List Value) ⊕ (FieldType × ((List Int32) ⊕ ((List Int64) ⊕ (List (Option Nat)))))
abbrev xH : Type := List xC
def orr (as : List Nat) (v w : Option Nat) : Prop := match v with
  | none => w = none
  | some i => ∃ a, w = some a ∧ as[i]? = some a
theorem orr_app {as t : List Nat} {v w : Option Nat} (h : orr as v w) : orr (as ++ t) v w := by
  cases v with
  | none => exact h
  | some i =>
    obtain ⟨a, h1, h2⟩ := h
    exact ⟨a, h1, by rw [List.getElem?_append_left (List.getElem?_eq_some_iff.mp h2).1]; exact h2⟩
theorem vr_app {as t : List Nat} {v w : Value} (h : vr as v w) : vr (as ++ t) v w := by
  cases v <;> first | (obtain ⟨a, h1, h2⟩ := vr_r h; exact ⟨a, h1, by rw [List.getElem?_append_left (List.getElem?_eq_some_iff.mp h2).1]; exact h2⟩) | exact h
theorem vrs_app {as t : List Nat} : ∀ {l w : List Value}, vrs as l w → vrs (as ++ t) l w
  | [], _, h => h
  | _ :: _, _, h => by
    obtain ⟨x, r, h1, h2, h3⟩ := h
    exact ⟨x, r, h1, vr_app h2, vrs_app h3⟩
theorem lrs_app {as t : List Nat} : ∀ {l w : xL}, lrs as l w → lrs (as ++ t) l w
  | [], _, h => h
  | _ :: _, _, h => by
    obtain ⟨x, r, h1, h2, h3⟩ := h
    exact ⟨x, r, h1, vr_app h2, lrs_app h3⟩
theorem orr_rf {as : List Nat} {v w : Option Nat} (h : orr as v w) : vr as (va_rf v) (va_rf w) := by
  cases v with
  | none => have h : w = none := h; rw [h]; rfl
  | some i =>
    obtain ⟨a, h1, h2⟩ := h
    rw [h1]
    exact ⟨a, rfl, h2⟩
def cr (as : List Nat) (tys : List (ClassId × FieldType)) (c : xC) (e : va_E) : Prop := match c with
  | .inl q => ∃ w, e = .inr (q.1, w) ∧ vrs as q.2 w
  | .inr (ty, .inl l) => ∃ (cA : ClassId) (t0 : Nat), tys[t0]? = some (cA, ty) ∧ e = .inl (cA, l.length, .inl (fun j => l.getD j 0))
  | .inr (ty, .inr (.inl l)) => ∃ (cA : ClassId) (t0 : Nat), tys[t0]? = some (cA, ty) ∧ e = .inl (cA, l.length, .inr (.inl (fun j => l.getD j 0)))
  | .inr (ty, .inr (.inr l)) => ∃ (cA : ClassId) (t0 : Nat) (g : Nat → Option Nat), tys[t0]? = some (cA, ty) ∧ e = .inl (cA, l.length, .inr (.inr (.inr (.inr g)))) ∧ ∀ j, orr as (l.getD j none) (g j)
theorem tys_app {tys t : List (ClassId × FieldType)} {k : Nat} {x : ClassId × FieldType} (h : tys[k]? = some x) : (tys ++ t)[k]? = some x := by
  rw [List.getElem?_append_left (List.getElem?_eq_some_iff.mp h).1]; exact h
theorem cr_app {as t : List Nat} {tys u : List (ClassId × FieldType)} {c : xC} {e : va_E} (h : cr as tys c e) : cr (as ++ t) (tys ++ u) c e := by
  obtain q | ⟨ty, l | l | l⟩ := c
  · obtain ⟨w, h1, h2⟩ := h; exact ⟨w, h1, vrs_app h2⟩
  · obtain ⟨cA, t0, h1, h2⟩ := h; exact ⟨cA, t0, tys_app h1, h2⟩
  · obtain ⟨cA, t0, h1, h2⟩ := h; exact ⟨cA, t0, tys_app h1, h2⟩
  · obtain ⟨cA, t0, g, h1, h2, h3⟩ := h; exact ⟨cA, t0, g, tys_app h1, h2, fun j => orr_app (h3 j)⟩
def wr (as : List Nat) (tys : List (ClassId × FieldType)) (h : xH) (ws : va_W) : Prop := as.length = h.length ∧ ws.length = h.length ∧ ∀ (i : Nat) (c : xC), h[i]? = some c → ∃ (a : Nat) (e : va_E), as[i]? = some a ∧ ws[i]? = some (a, e) ∧ cr as tys c e
theorem wr_set {as : List Nat} {tys : List (ClassId × FieldType)} {h : xH} {ws : va_W} {i a : Nat} {c : xC} {e : va_E} (hw : wr as tys h ws) (ha : as[i]? = some a) (hc : cr as tys c e) : wr as tys (h.set i c) (ws.set i (a, e)) := by
  obtain ⟨h1, h2, h3⟩ := hw
  refine ⟨by simp [h1], by simp [h2], fun j d hj => ?_⟩
  by_cases e1 : j = i
  · subst e1
    have hl : j < h.length := by rw [← h1]; exact (List.getElem?_eq_some_iff.mp ha).1
    rw [List.getElem?_set_self hl] at hj
    cases hj
    exact ⟨a, e, ha, by rw [List.getElem?_set_self (by omega)], hc⟩
  · rw [List.getElem?_set_ne (fun q => e1 q.symm)] at hj
    obtain ⟨b, f, g1, g2, g3⟩ := h3 j d hj
    exact ⟨b, f, g1, by rw [List.getElem?_set_ne (fun q => e1 q.symm)]; exact g2, g3⟩
theorem wr_push {as : List Nat} {tys u : List (ClassId × FieldType)} {h : xH} {ws : va_W} {q : Nat} {c : xC} {e : va_E} (hw : wr as tys h ws) (hc : cr (as ++ [q]) (tys ++ u) c e) : wr (as ++ [q]) (tys ++ u) (h ++ [c]) (ws ++ [(q, e)]) := by
  obtain ⟨h1, h2, h3⟩ := hw
  refine ⟨by simp [h1], by simp [h2], fun j d hj => ?_⟩
  by_cases e1 : j < h.length
  · rw [List.getElem?_append_left e1] at hj
    obtain ⟨b, f, g1, g2, g3⟩ := h3 j d hj
    exact ⟨b, f, by rw [List.getElem?_append_left (by omega)]; exact g1, by rw [List.getElem?_append_left (by omega)]; exact g2, cr_app g3⟩
  · rw [List.getElem?_append_right (by omega)] at hj
    have hz : j - h.length < 1 := (List.getElem?_eq_some_iff.mp hj).1
    have hj2 : j = h.length := by omega
    subst hj2
    rw [Nat.sub_self] at hj
    cases hj
    exact ⟨q, e, by rw [← h1, List.getElem?_append_right (Nat.le_refl _), Nat.sub_self]; rfl, by rw [← h2, List.getElem?_append_right (Nat.le_refl _), Nat.sub_self]; rfl, hc⟩
/-- the world stands: cells, tables, what may be written -/
def sg (D : va_G) (cl : List vw_C) (A : Nat → Prop) (s : State) (h : xH) (as : List Nat) (tys : List (ClassId × FieldType)) (ws : va_W) (H : Heap) (locs : List Loc) : Prop :=
  wr as tys h ws ∧ va_K D cl tys s ∧ va_P D cl ws H ∧ va_D A ws ∧ va_S A s.heap H locs ∧ (∀ q, s.heap.size ≤ q → A q)
theorem gd_set {α : Type} {l : List α} {i : Nat} (x d : α) (hi : i < l.length) : (fun j => (l.set i x).getD j d) = fun j => if j = i then x else l.getD j d := by
  funext j
  by_cases e : j = i
  · subst e
    simp [List.getD, hi]
  · rw [if_neg e]
    simp [List.getD, List.getElem?_set_ne (fun q => e q.symm)]
theorem nar_vr {as : List Nat} {v w : Value} {ty : FieldType} (h : vr as v w) (h1 : narrow ty v = v) (h2 : fits ty v = true) : narrow ty w = w ∧ fits ty w = true := by
  cases v <;> first | (obtain ⟨a, rfl, -⟩ := vr_r h; cases ty <;> first | exact ⟨rfl, rfl⟩ | (simp [fits] at h2)) | (have h : w = _ := h; rw [h]; exact ⟨h1, h2⟩)
section SGL
variable {p : Program} {l : Launch} {e : Env} {R : Room} {s : State} {m : MethodId} {args : Array Value} {below : List Frame} {meth : Method} {c : Code} {H : Heap} {locs : List Loc} {cells slots : Nat} {Q : State → Prop}
variable {cc : ByteArray} {pc : Nat} {ls : Array Slot} {rest : List Value} {D : va_G} {cl : List vw_C} {A : Nat → Prop} {a i : Nat} {tys : List (ClassId × FieldType)} {ws : va_W} {h : xH} {as : List Nat}
theorem sg_get (hx : p.tables.exec = Jvm.exec) (hb : c.code = cc) {own ref C : String} {T : u_T} {N ci index : Nat} {Ts : List Cond} (hts : ∀ w ∈ Ts, w.before args s = true) (hin : ∀ w ∈ u_ws C T N, w ∈ Ts) (hown : s.vm.findClass own = some m.cls) (G : sg D cl A s h as tys ws H locs) (ha : as[i]? = some a) {vs : List Value} (hh : h[i]? = some (.inl (ci, vs))) (hc : cl[ci]? = some (C, T, N)) (k : Nat) (hk : k < N) (hlink : (Cond.fieldLink own index ref (T k).2.1 (T k).2.2.1).before args s = true) (hsame : ∀ x, s.fieldFound? (T k).1 (T k).2.1 (T k).2.2.1 = some x → s.fieldFound? ref (T k).2.1 (T k).2.2.1 = some x) {v : Value} (hv : vs[k]? = some v) (hdg : decode cc pc = .ok (.getfield index, 3))
    (kk : ∀ w, vr as v w → W p l e R s m args below meth c H locs cells slots Q (F0 m (pc + 3) ls (w :: rest))) : W p l e R s m args below meth c H locs cells slots Q (F0 m pc ls (.ref a :: rest)) := by
  obtain ⟨hw, hK, hP, hD, hS, hA⟩ := G
  obtain ⟨a', e', g1, g2, w, rfl, g3⟩ := hw.2.2 i _ hh
  have haa : a' = a := Option.some.inj (g1.symm.trans ha)
  subst haa
  obtain ⟨y, g4, g5⟩ := vrs_at g3 hv
  exact va_get hx hb hts hin hown hK hP i g2 hc k hk hlink hsame g4 hdg (kk y g5)
theorem sg_put (hx : p.tables.exec = Jvm.exec) (hb : c.code = cc) {own ref C : String} {T : u_T} {N ci index : Nat} {Ts : List Cond} (hts : ∀ w ∈ Ts, w.before args s = true) (hin : ∀ w ∈ u_ws C T N, w ∈ Ts) (ty0 : Nat → FieldType) (hty : ∀ k, k < N → parseFieldDescriptor (T k).2.2.1 = some (ty0 k)) (hnm : ∀ a, a < N → ∀ b, b < N → a ≠ b → (T a).2.1 ≠ (T b).2.1) (hown : s.vm.findClass own = some m.cls) (G : sg D cl A s h as tys ws H locs) (ha : as[i]? = some a) {vs : List Value} (hh : h[i]? = some (.inl (ci, vs))) (hc : cl[ci]? = some (C, T, N)) (k : Nat) (hk : k < N) (hlink : (Cond.fieldLink own index ref (T k).2.1 (T k).2.2.1).before args s = true) (hsame : ∀ x, s.fieldFound? (T k).1 (T k).2.1 (T k).2.2.1 = some x → s.fieldFound? ref (T k).2.1 (T k).2.2.1 = some x)
    (hfin : (T k).2.2.2 = false ∨ ((T k).2.2.2 = true ∧ meth.name = "<init>" ∧ (T k).1 = own)) {v w : Value} (hv : vr as v w) (hn : narrow (ty0 k) v = v) (hfit : fits (ty0 k) v = true) (hl : k < vs.length) (hdg : decode cc pc = .ok (.putfield index, 3))
    (kk : ∀ (ws1 : va_W) (H1 : Heap) (locs1 : List Loc), sg D cl A s (h.set i (.inl (ci, vs.set k v))) as tys ws1 H1 locs1 → W p l e R s m args below meth c H1 locs1 cells slots Q (F0 m (pc + 3) ls rest)) : W p l e R s m args below meth c H locs cells slots Q (F0 m pc ls (w :: .ref a :: rest)) := by
  obtain ⟨hw, hK, hP, hD, hS, hA⟩ := G
  obtain ⟨a', e', g1, g2, u, rfl, g3⟩ := hw.2.2 i _ hh
  have haa : a' = a := Option.some.inj (g1.symm.trans ha)
  subst haa
  obtain ⟨n1, n2⟩ := nar_vr hv hn hfit
  have hlu : k < u.length := by rw [vrs_len g3]; exact hl
  have hw2 := wr_set hw ha (c := .inl (ci, vs.set k v)) (e := .inr (ci, u.set k w)) ⟨_, rfl, vrs_set g3 k hv⟩
  rcases hfin with hf | ⟨hf, h2, h3⟩
  · exact va_put hx hb hts hin ty0 hty hnm hown hK hP hD hS i g2 hc k hk hlink hsame hf (hty k hk) n1 n2 hlu hdg (fun H1 locs1 hP hD hS => kk _ H1 locs1 ⟨hw2, hK, hP, hD, hS, hA⟩)
  · exact va_putF hx hb hts hin ty0 hty hnm hown hK hP hD hS i g2 hc k hk hlink hsame hf h2 h3 (hty k hk) n1 n2 hlu hdg (fun H1 locs1 hP hD hS => kk _ H1 locs1 ⟨hw2, hK, hP, hD, hS, hA⟩)
theorem sg_new (hx : p.tables.exec = Jvm.exec) (hb : c.code = cc) {own C : String} {T : u_T} {N ci index : Nat} {Ts : List Cond} (hts : ∀ w ∈ Ts, w.before args s = true) (hin : ∀ w ∈ u_ws C T N, w ∈ Ts) (ty : Nat → FieldType) (hty : ∀ k, k < N → parseFieldDescriptor (T k).2.2.1 = some (ty k)) (hown : s.vm.findClass own = some m.cls) (hcl : (Cond.classLink own index C).before args s = true) (hinst : (Cond.instantiable C N).before args s = true) (hini : (Cond.initialized C).before args s = true)
    (G : sg D cl A s h as tys ws H locs) (hc : cl[ci]? = some (C, T, N)) {fs : List Value} (hfs : ∀ j, j < N → defaultValue (ty j) = vp_V fs j) (hfr : ∀ as', vrs as' fs fs) (hcells : cells + 1 ≤ R.cells) (hslots : slots + N ≤ R.slots) (hdg : decode cc pc = .ok (.new index, 3))
    (kk : ∀ (q : Nat) (ws1 : va_W) (H1 : Heap), sg D cl A s (h ++ [.inl (ci, fs)]) (as ++ [q]) tys ws1 H1 locs → W p l e R s m args below meth c H1 locs (cells + 1) (slots + N) Q (F0 m (pc + 3) ls (.ref q :: rest))) : W p l e R s m args below meth c H locs cells slots Q (F0 m pc ls rest) := by
  obtain ⟨hw, hK, hP, hD, hS, hA⟩ := G
  refine va_new hx hb hts hin ty hty hown hcl hinst hini hK hP hD hS hA hc hfs hcells hslots hdg (fun q H1 hP hD hS => kk q _ H1 ⟨?_, hK, hP, hD, hS, hA⟩)
  have := wr_push (u := []) (q := q) hw (c := .inl (ci, fs)) (e := .inr (ci, fs)) ⟨fs, rfl, hfr _⟩
  rw [List.append_nil] at this
  exact this
theorem sg_newq (hx : p.tables.exec = Jvm.exec) (hb : c.code = cc) {own C : String} {index : Nat} (hown : s.vm.findClass own = some m.cls) (hclink : (Cond.classLink own index C).before args s = true) (hover : va_AO C s) (G : sg D cl A s h as tys ws H locs)
    {n : Int32} {N' : Nat} (hn : ¬ n < 0) (hN : n.toNatClampNeg = N') (hbytes : N' * 4 ≤ 536870912) (hcells : cells + 1 ≤ R.cells) (hslots : slots + N' ≤ R.slots) (hdg : decode cc pc = .ok (.anewarray index, 3))
    (kk : ∀ (q : Nat) (tys1 : List (ClassId × FieldType)) (ws1 : va_W) (H1 : Heap), sg D cl A s (h ++ [.inr (.object C, .inr (.inr (List.replicate N' none)))]) (as ++ [q]) tys1 ws1 H1 locs → W p l e R s m args below meth c H1 locs (cells + 1) (slots + N') Q (F0 m (pc + 3) ls (.ref q :: rest))) : W p l e R s m args below meth c H locs cells slots Q (F0 m pc ls (.int n :: rest)) := by
  obtain ⟨hw, hK, hP, hD, hS, hA⟩ := G
  refine va_newq hx hb hown hclink hover hK hP hD hS hA hn hN hbytes hcells hslots hdg (fun q cA H1 hK hP hD hS => kk q _ _ H1 ⟨?_, hK, hP, hD, hS, hA⟩)
  refine wr_push (q := q) hw ⟨cA, tys.length, fun _ => none, ?_, by rw [List.length_replicate], fun j => ?_⟩
  · rw [List.getElem?_append_right (Nat.le_refl _), Nat.sub_self]; rfl
  · have : (List.replicate N' (none : Option Nat)).getD j none = none := by
      simp only [List.getD, List.getElem?_replicate]
      split <;> rfl
    rw [this]
    rfl
theorem sg_alen (hx : p.tables.exec = Jvm.exec) (hb : c.code = cc) (G : sg D cl A s h as tys ws H locs) (ha : as[i]? = some a) {ty : FieldType} {x : (List Int32) ⊕ ((List Int64) ⊕ (List (Option Nat)))} (hh : h[i]? = some (.inr (ty, x))) {n : Nat} (hn : n = match x with | .inl l => l.length | .inr (.inl l) => l.length | .inr (.inr l) => l.length) (hdg : decode cc pc = .ok (.arraylength, 1))
    (kk : W p l e R s m args below meth c H locs cells slots Q (F0 m (pc + 1) ls (.int (Int32.ofNat n) :: rest))) : W p l e R s m args below meth c H locs cells slots Q (F0 m pc ls (.ref a :: rest)) := by
  subst hn
  obtain ⟨hw, hK, hP, hD, hS, hA⟩ := G
  obtain ⟨a', e', g1, g2, g3⟩ := hw.2.2 i _ hh
  have haa : a' = a := Option.some.inj (g1.symm.trans ha)
  subst haa
  obtain x | x | x := x
  · obtain ⟨cA, t0, g4, rfl⟩ := g3
    exact va_alen hx hb hK hP i t0 g2 g4 rfl hdg kk
  · obtain ⟨cA, t0, g4, rfl⟩ := g3
    exact va_alen hx hb hK hP i t0 g2 g4 rfl hdg kk
  · obtain ⟨cA, t0, g, g4, rfl, -⟩ := g3
    exact va_alen hx hb hK hP i t0 g2 g4 rfl hdg kk
theorem sg_aald (hx : p.tables.exec = Jvm.exec) (hb : c.code = cc) (G : sg D cl A s h as tys ws H locs) (ha : as[i]? = some a) {C : String} {x : List (Option Nat)} (hh : h[i]? = some (.inr (.object C, .inr (.inr x)))) {j : Int32} (hin : vp_in j x.length) (hdg : decode cc pc = .ok (.aaload, 1))
    (kk : ∀ w, vr as (va_rf (x.getD j.toNatClampNeg none)) w → W p l e R s m args below meth c H locs cells slots Q (F0 m (pc + 1) ls (w :: rest))) : W p l e R s m args below meth c H locs cells slots Q (F0 m pc ls (.int j :: .ref a :: rest)) := by
  obtain ⟨hw, hK, hP, hD, hS, hA⟩ := G
  obtain ⟨a', e', g1, g2, cA, t0, g, g3, rfl, g4⟩ := hw.2.2 i _ hh
  have haa : a' = a := Option.some.inj (g1.symm.trans ha)
  subst haa
  exact va_aldq hx hb hK hP i t0 g2 g3 hin hdg (kk _ (orr_rf (g4 _)))
theorem sg_aast (hx : p.tables.exec = Jvm.exec) (hb : c.code = cc) (G : sg D cl A s h as tys ws H locs) (ha : as[i]? = some a) {r : vw_C} {x : List (Option Nat)} (hh : h[i]? = some (.inr (.object r.1, .inr (.inr x)))) {ci k b : Nat} {vs : List Value} (hb2 : as[k]? = some b) (hk : h[k]? = some (.inl (ci, vs))) (hc : cl[ci]? = some r) {j : Int32} (hin : vp_in j x.length) (hdg : decode cc pc = .ok (.aastore, 1))
    (kk : ∀ (ws1 : va_W) (H1 : Heap) (locs1 : List Loc), sg D cl A s (h.set i (.inr (.object r.1, .inr (.inr (x.set j.toNatClampNeg (some k)))))) as tys ws1 H1 locs1 → W p l e R s m args below meth c H1 locs1 cells slots Q (F0 m (pc + 1) ls rest)) : W p l e R s m args below meth c H locs cells slots Q (F0 m pc ls (.ref b :: .int j :: .ref a :: rest)) := by
  obtain ⟨hw, hK, hP, hD, hS, hA⟩ := G
  obtain ⟨a', e', g1, g2, cA, t0, g, g3, rfl, g4⟩ := hw.2.2 i _ hh
  have haa : a' = a := Option.some.inj (g1.symm.trans ha)
  subst haa
  obtain ⟨b', e2, g5, g6, u, rfl, g7⟩ := hw.2.2 k _ hk
  have hbb : b' = b := Option.some.inj (g5.symm.trans hb2)
  subst hbb
  have hlt : j.toNatClampNeg < x.length := Nat.not_le.mp fun q => hin (Or.inr q)
  refine va_astq hx hb hK hP hD hS i t0 k ci g2 g3 g6 hc hin hdg (fun H1 locs1 hP hD hS => kk _ H1 locs1 ⟨wr_set hw ha ⟨cA, t0, _, g3, by rw [List.length_set], fun q => ?_⟩, hK, hP, hD, hS, hA⟩)
  have := congrFun (gd_set (some k) none hlt) q
  rw [this]
  unfold va_up
  by_cases e1 : q = j.toNatClampNeg
  · rw [if_pos e1, if_pos e1]
    exact ⟨b', rfl, hb2⟩
  · rw [if_neg e1, if_neg e1]
    exact g4 q
theorem sg_iald (hx : p.tables.exec = Jvm.exec) (hb : c.code = cc) (G : sg D cl A s h as tys ws H locs) (ha : as[i]? = some a) {x : List Int32} (hh : h[i]? = some (.inr (.int, .inl x))) {j : Int32} (hin : vp_in j x.length) (hdg : decode cc pc = .ok (.iaload, 1))
    (kk : W p l e R s m args below meth c H locs cells slots Q (F0 m (pc + 1) ls (.int (x.getD j.toNatClampNeg 0) :: rest))) : W p l e R s m args below meth c H locs cells slots Q (F0 m pc ls (.int j :: .ref a :: rest)) := by
  obtain ⟨hw, hK, hP, hD, hS, hA⟩ := G
  obtain ⟨a', e', g1, g2, cA, t0, g3, rfl⟩ := hw.2.2 i _ hh
  have haa : a' = a := Option.some.inj (g1.symm.trans ha)
  subst haa
  exact va_iald hx hb hK hP i t0 g2 g3 hin hdg kk
theorem sg_cald (hx : p.tables.exec = Jvm.exec) (hb : c.code = cc) (G : sg D cl A s h as tys ws H locs) (ha : as[i]? = some a) {x : List Int32} (hh : h[i]? = some (.inr (.char, .inl x))) {j : Int32} (hin : vp_in j x.length) (hdg : decode cc pc = .ok (.caload, 1))
    (kk : W p l e R s m args below meth c H locs cells slots Q (F0 m (pc + 1) ls (.int (x.getD j.toNatClampNeg 0) :: rest))) : W p l e R s m args below meth c H locs cells slots Q (F0 m pc ls (.int j :: .ref a :: rest)) := by
  obtain ⟨hw, hK, hP, hD, hS, hA⟩ := G
  obtain ⟨a', e', g1, g2, cA, t0, g3, rfl⟩ := hw.2.2 i _ hh
  have haa : a' = a := Option.some.inj (g1.symm.trans ha)
  subst haa
  exact va_cald hx hb hK hP i t0 g2 g3 hin hdg kk
theorem sg_zald (hx : p.tables.exec = Jvm.exec) (hb : c.code = cc) (G : sg D cl A s h as tys ws H locs) (ha : as[i]? = some a) {x : List Int32} (hh : h[i]? = some (.inr (.boolean, .inl x))) {j : Int32} (hin : vp_in j x.length) (hdg : decode cc pc = .ok (.baload, 1))
    (kk : W p l e R s m args below meth c H locs cells slots Q (F0 m (pc + 1) ls (.int (x.getD j.toNatClampNeg 0) :: rest))) : W p l e R s m args below meth c H locs cells slots Q (F0 m pc ls (.int j :: .ref a :: rest)) := by
  obtain ⟨hw, hK, hP, hD, hS, hA⟩ := G
  obtain ⟨a', e', g1, g2, cA, t0, g3, rfl⟩ := hw.2.2 i _ hh
  have haa : a' = a := Option.some.inj (g1.symm.trans ha)
  subst haa
  exact va_zald hx hb hK hP i t0 g2 g3 hin hdg kk
theorem sg_lald (hx : p.tables.exec = Jvm.exec) (hb : c.code = cc) (G : sg D cl A s h as tys ws H locs) (ha : as[i]? = some a) {x : List Int64} (hh : h[i]? = some (.inr (.long, .inr (.inl x)))) {j : Int32} (hin : vp_in j x.length) (hdg : decode cc pc = .ok (.laload, 1))
    (kk : W p l e R s m args below meth c H locs cells slots Q (F0 m (pc + 1) ls (.long (x.getD j.toNatClampNeg 0) :: rest))) : W p l e R s m args below meth c H locs cells slots Q (F0 m pc ls (.int j :: .ref a :: rest)) := by
  obtain ⟨hw, hK, hP, hD, hS, hA⟩ := G
  obtain ⟨a', e', g1, g2, cA, t0, g3, rfl⟩ := hw.2.2 i _ hh
  have haa : a' = a := Option.some.inj (g1.symm.trans ha)
  subst haa
  exact va_lald hx hb hK hP i t0 g2 g3 hin hdg kk
theorem sg_iast (hx : p.tables.exec = Jvm.exec) (hb : c.code = cc) (G : sg D cl A s h as tys ws H locs) (ha : as[i]? = some a) {x : List Int32} (hh : h[i]? = some (.inr (.int, .inl (x)))) {j : Int32} {y : Int32} (hin : vp_in j x.length) (hdg : decode cc pc = .ok (.iastore, 1))
    (kk : ∀ (ws1 : va_W) (H1 : Heap) (locs1 : List Loc), sg D cl A s (h.set i (.inr (.int, .inl (x.set j.toNatClampNeg (y))))) as tys ws1 H1 locs1 → W p l e R s m args below meth c H1 locs1 cells slots Q (F0 m (pc + 1) ls rest)) : W p l e R s m args below meth c H locs cells slots Q (F0 m pc ls (.int y :: .int j :: .ref a :: rest)) := by
  obtain ⟨hw, hK, hP, hD, hS, hA⟩ := G
  obtain ⟨a', e', g1, g2, cA, t0, g3, rfl⟩ := hw.2.2 i _ hh
  have haa : a' = a := Option.some.inj (g1.symm.trans ha)
  subst haa
  have hlt : j.toNatClampNeg < x.length := Nat.not_le.mp fun q => hin (Or.inr q)
  refine va_iast hx hb hK hP hD hS i t0 g2 g3 hin hdg (fun H1 locs1 hP hD hS => kk _ H1 locs1 ⟨wr_set hw ha ⟨cA, t0, g3, ?_⟩, hK, hP, hD, hS, hA⟩)
  rw [List.length_set, gd_set _ _ hlt]
  rfl
theorem sg_cast (hx : p.tables.exec = Jvm.exec) (hb : c.code = cc) (G : sg D cl A s h as tys ws H locs) (ha : as[i]? = some a) {x : List Int32} (hh : h[i]? = some (.inr (.char, .inl (x)))) {j : Int32} {y : Int32} (hin : vp_in j x.length) (hdg : decode cc pc = .ok (.castore, 1))
    (kk : ∀ (ws1 : va_W) (H1 : Heap) (locs1 : List Loc), sg D cl A s (h.set i (.inr (.char, .inl (x.set j.toNatClampNeg (vp_nar .char y))))) as tys ws1 H1 locs1 → W p l e R s m args below meth c H1 locs1 cells slots Q (F0 m (pc + 1) ls rest)) : W p l e R s m args below meth c H locs cells slots Q (F0 m pc ls (.int y :: .int j :: .ref a :: rest)) := by
  obtain ⟨hw, hK, hP, hD, hS, hA⟩ := G
  obtain ⟨a', e', g1, g2, cA, t0, g3, rfl⟩ := hw.2.2 i _ hh
  have haa : a' = a := Option.some.inj (g1.symm.trans ha)
  subst haa
  have hlt : j.toNatClampNeg < x.length := Nat.not_le.mp fun q => hin (Or.inr q)
  refine va_cast hx hb hK hP hD hS i t0 g2 g3 hin hdg (fun H1 locs1 hP hD hS => kk _ H1 locs1 ⟨wr_set hw ha ⟨cA, t0, g3, ?_⟩, hK, hP, hD, hS, hA⟩)
  rw [List.length_set, gd_set _ _ hlt]
  rfl
theorem sg_zast (hx : p.tables.exec = Jvm.exec) (hb : c.code = cc) (G : sg D cl A s h as tys ws H locs) (ha : as[i]? = some a) {x : List Int32} (hh : h[i]? = some (.inr (.boolean, .inl (x)))) {j : Int32} {y : Int32} (hin : vp_in j x.length) (hdg : decode cc pc = .ok (.bastore, 1))
    (kk : ∀ (ws1 : va_W) (H1 : Heap) (locs1 : List Loc), sg D cl A s (h.set i (.inr (.boolean, .inl (x.set j.toNatClampNeg (vp_nar .boolean y))))) as tys ws1 H1 locs1 → W p l e R s m args below meth c H1 locs1 cells slots Q (F0 m (pc + 1) ls rest)) : W p l e R s m args below meth c H locs cells slots Q (F0 m pc ls (.int y :: .int j :: .ref a :: rest)) := by
  obtain ⟨hw, hK, hP, hD, hS, hA⟩ := G
  obtain ⟨a', e', g1, g2, cA, t0, g3, rfl⟩ := hw.2.2 i _ hh
  have haa : a' = a := Option.some.inj (g1.symm.trans ha)
  subst haa
  have hlt : j.toNatClampNeg < x.length := Nat.not_le.mp fun q => hin (Or.inr q)
  refine va_zast hx hb hK hP hD hS i t0 g2 g3 hin hdg (fun H1 locs1 hP hD hS => kk _ H1 locs1 ⟨wr_set hw ha ⟨cA, t0, g3, ?_⟩, hK, hP, hD, hS, hA⟩)
  rw [List.length_set, gd_set _ _ hlt]
  rfl
theorem sg_last (hx : p.tables.exec = Jvm.exec) (hb : c.code = cc) (G : sg D cl A s h as tys ws H locs) (ha : as[i]? = some a) {x : List Int64} (hh : h[i]? = some (.inr (.long, .inr (.inl (x))))) {j : Int32} {y : Int64} (hin : vp_in j x.length) (hdg : decode cc pc = .ok (.lastore, 1))
    (kk : ∀ (ws1 : va_W) (H1 : Heap) (locs1 : List Loc), sg D cl A s (h.set i (.inr (.long, .inr (.inl (x.set j.toNatClampNeg (y)))))) as tys ws1 H1 locs1 → W p l e R s m args below meth c H1 locs1 cells slots Q (F0 m (pc + 1) ls rest)) : W p l e R s m args below meth c H locs cells slots Q (F0 m pc ls (.long y :: .int j :: .ref a :: rest)) := by
  obtain ⟨hw, hK, hP, hD, hS, hA⟩ := G
  obtain ⟨a', e', g1, g2, cA, t0, g3, rfl⟩ := hw.2.2 i _ hh
  have haa : a' = a := Option.some.inj (g1.symm.trans ha)
  subst haa
  have hlt : j.toNatClampNeg < x.length := Nat.not_le.mp fun q => hin (Or.inr q)
  refine va_last hx hb hK hP hD hS i t0 g2 g3 hin hdg (fun H1 locs1 hP hD hS => kk _ H1 locs1 ⟨wr_set hw ha ⟨cA, t0, g3, ?_⟩, hK, hP, hD, hS, hA⟩)
  rw [List.length_set, gd_set _ _ hlt]
  rfl
theorem sg_newa_int (hx : p.tables.exec = Jvm.exec) (hb : c.code = cc) (harr : (Cond.arrayClass .int).before args s = true) (G : sg D cl A s h as tys ws H locs)
    {n : Int32} {N' : Nat} (hn : ¬ n < 0) (hN : n.toNatClampNeg = N') (hbytes : N' * componentBytes .int ≤ 536870912) (hcells : cells + 1 ≤ R.cells) (hslots : slots + N' ≤ R.slots) (hdg : decode cc pc = .ok (.newarray .int, 2))
    (kk : ∀ (q : Nat) (tys1 : List (ClassId × FieldType)) (ws1 : va_W) (H1 : Heap), sg D cl A s (h ++ [.inr (.int, .inl (List.replicate N' 0))]) (as ++ [q]) tys1 ws1 H1 locs → W p l e R s m args below meth c H1 locs (cells + 1) (slots + N') Q (F0 m (pc + 2) ls (.ref q :: rest))) : W p l e R s m args below meth c H locs cells slots Q (F0 m pc ls (.int n :: rest)) := by
  obtain ⟨hw, hK, hP, hD, hS, hA⟩ := G
  refine va_newa (atype := .int) (a0 := (N', .inl (fun _ => 0))) (ty := .int) hx hb harr rfl hK hP hD hS hA (fun cA => rfl) hn hN hbytes hcells hslots hdg (fun q cA H1 hK hP hD hS => kk q _ _ H1 ⟨?_, hK, hP, hD, hS, hA⟩)
  refine wr_push (q := q) hw ⟨cA, tys.length, ?_, ?_⟩
  · rw [List.getElem?_append_right (Nat.le_refl _), Nat.sub_self]; rfl
  · have : (fun j => (List.replicate N' (0 : Int32)).getD j 0) = fun _ => 0 := by
      funext j
      simp only [List.getD, List.getElem?_replicate]
      split <;> rfl
    rw [List.length_replicate, this]
theorem sg_newa_char (hx : p.tables.exec = Jvm.exec) (hb : c.code = cc) (harr : (Cond.arrayClass .char).before args s = true) (G : sg D cl A s h as tys ws H locs)
    {n : Int32} {N' : Nat} (hn : ¬ n < 0) (hN : n.toNatClampNeg = N') (hbytes : N' * componentBytes .char ≤ 536870912) (hcells : cells + 1 ≤ R.cells) (hslots : slots + N' ≤ R.slots) (hdg : decode cc pc = .ok (.newarray .char, 2))
    (kk : ∀ (q : Nat) (tys1 : List (ClassId × FieldType)) (ws1 : va_W) (H1 : Heap), sg D cl A s (h ++ [.inr (.char, .inl (List.replicate N' 0))]) (as ++ [q]) tys1 ws1 H1 locs → W p l e R s m args below meth c H1 locs (cells + 1) (slots + N') Q (F0 m (pc + 2) ls (.ref q :: rest))) : W p l e R s m args below meth c H locs cells slots Q (F0 m pc ls (.int n :: rest)) := by
  obtain ⟨hw, hK, hP, hD, hS, hA⟩ := G
  refine va_newa (atype := .char) (a0 := (N', .inl (fun _ => 0))) (ty := .char) hx hb harr rfl hK hP hD hS hA (fun cA => rfl) hn hN hbytes hcells hslots hdg (fun q cA H1 hK hP hD hS => kk q _ _ H1 ⟨?_, hK, hP, hD, hS, hA⟩)
  refine wr_push (q := q) hw ⟨cA, tys.length, ?_, ?_⟩
  · rw [List.getElem?_append_right (Nat.le_refl _), Nat.sub_self]; rfl
  · have : (fun j => (List.replicate N' (0 : Int32)).getD j 0) = fun _ => 0 := by
      funext j
      simp only [List.getD, List.getElem?_replicate]
      split <;> rfl
    rw [List.length_replicate, this]
theorem sg_newa_boolean (hx : p.tables.exec = Jvm.exec) (hb : c.code = cc) (harr : (Cond.arrayClass .boolean).before args s = true) (G : sg D cl A s h as tys ws H locs)
    {n : Int32} {N' : Nat} (hn : ¬ n < 0) (hN : n.toNatClampNeg = N') (hbytes : N' * componentBytes .boolean ≤ 536870912) (hcells : cells + 1 ≤ R.cells) (hslots : slots + N' ≤ R.slots) (hdg : decode cc pc = .ok (.newarray .boolean, 2))
    (kk : ∀ (q : Nat) (tys1 : List (ClassId × FieldType)) (ws1 : va_W) (H1 : Heap), sg D cl A s (h ++ [.inr (.boolean, .inl (List.replicate N' 0))]) (as ++ [q]) tys1 ws1 H1 locs → W p l e R s m args below meth c H1 locs (cells + 1) (slots + N') Q (F0 m (pc + 2) ls (.ref q :: rest))) : W p l e R s m args below meth c H locs cells slots Q (F0 m pc ls (.int n :: rest)) := by
  obtain ⟨hw, hK, hP, hD, hS, hA⟩ := G
  refine va_newa (atype := .boolean) (a0 := (N', .inl (fun _ => 0))) (ty := .boolean) hx hb harr rfl hK hP hD hS hA (fun cA => rfl) hn hN hbytes hcells hslots hdg (fun q cA H1 hK hP hD hS => kk q _ _ H1 ⟨?_, hK, hP, hD, hS, hA⟩)
  refine wr_push (q := q) hw ⟨cA, tys.length, ?_, ?_⟩
  · rw [List.getElem?_append_right (Nat.le_refl _), Nat.sub_self]; rfl
  · have : (fun j => (List.replicate N' (0 : Int32)).getD j 0) = fun _ => 0 := by
      funext j
      simp only [List.getD, List.getElem?_replicate]
      split <;> rfl
    rw [List.length_replicate, this]
theorem sg_newa_long (hx : p.tables.exec = Jvm.exec) (hb : c.code = cc) (harr : (Cond.arrayClass .long).before args s = true) (G : sg D cl A s h as tys ws H locs)
    {n : Int32} {N' : Nat} (hn : ¬ n < 0) (hN : n.toNatClampNeg = N') (hbytes : N' * componentBytes .long ≤ 536870912) (hcells : cells + 1 ≤ R.cells) (hslots : slots + N' ≤ R.slots) (hdg : decode cc pc = .ok (.newarray .long, 2))
    (kk : ∀ (q : Nat) (tys1 : List (ClassId × FieldType)) (ws1 : va_W) (H1 : Heap), sg D cl A s (h ++ [.inr (.long, .inr (.inl (List.replicate N' 0)))]) (as ++ [q]) tys1 ws1 H1 locs → W p l e R s m args below meth c H1 locs (cells + 1) (slots + N') Q (F0 m (pc + 2) ls (.ref q :: rest))) : W p l e R s m args below meth c H locs cells slots Q (F0 m pc ls (.int n :: rest)) := by
  obtain ⟨hw, hK, hP, hD, hS, hA⟩ := G
  refine va_newa (atype := .long) (a0 := (N', .inr (.inl (fun _ => 0)))) (ty := .long) hx hb harr rfl hK hP hD hS hA (fun cA => rfl) hn hN hbytes hcells hslots hdg (fun q cA H1 hK hP hD hS => kk q _ _ H1 ⟨?_, hK, hP, hD, hS, hA⟩)
  refine wr_push (q := q) hw ⟨cA, tys.length, ?_, ?_⟩
  · rw [List.getElem?_append_right (Nat.le_refl _), Nat.sub_self]; rfl
  · have : (fun j => (List.replicate N' (0 : Int64)).getD j 0) = fun _ => 0 := by
      funext j
      simp only [List.getD, List.getElem?_replicate]
      split <;> rfl
    rw [List.length_replicate, this]
end SGL
