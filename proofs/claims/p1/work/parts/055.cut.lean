/-! a call on a part of the cells: renaming there and back -/
noncomputable def rv (f : Nat → Option Nat) (v : Value) : Option Value := match v with
  | .ref i => (f i).bind (fun j => fN j (fun j => some (Value.ref j)))
  | v => some v
noncomputable def rvs (f : Nat → Option Nat) : List Value → Option (List Value)
  | [] => some []
  | v :: l => (rv f v).bind (fun x => (rvs f l).map (fun m => x :: m))
noncomputable def ro (f : Nat → Option Nat) (v : Option Nat) : Option (Option Nat) := match v with
  | none => some none
  | some i => (f i).bind (fun j => fN j (fun j => some (some j)))
noncomputable def ros (f : Nat → Option Nat) : List (Option Nat) → Option (List (Option Nat))
  | [] => some []
  | v :: l => (ro f v).bind (fun x => (ros f l).map (fun m => x :: m))
noncomputable def rc (f : Nat → Option Nat) (c : xC) : Option xC := match c with
  | .inl q => (rvs f q.2).map (fun w => .inl (q.1, w))
  | .inr (ty, .inr (.inr x)) => (ros f x).map (fun w => .inr (ty, .inr (.inr w)))
  | c => some c
noncomputable def rcs (f : Nat → Option Nat) : List xC → Option (List xC)
  | [] => some []
  | v :: l => (rc f v).bind (fun x => (rcs f l).map (fun m => x :: m))
def Ren (f : Nat → Option Nat) (as bs : List Nat) : Prop := ∀ i j a, f i = some j → as[i]? = some a → bs[j]? = some a
theorem rv_ok {f : Nat → Option Nat} {as bs : List Nat} (R : Ren f as bs) {v w x : Value} (h : rv f v = some w) (hx : vr as v x) : vr bs w x := by
  cases v <;> first | (cases h; exact hx) | skip
  next i =>
    have h : (f i).bind (fun j => fN j (fun j => some (Value.ref j))) = some w := h
    cases hf : f i with
    | none => rw [hf] at h; cases h
    | some j =>
      rw [hf, Option.bind_some, fN_eq] at h
      cases h
      obtain ⟨a, rfl, ha⟩ := vr_r hx
      exact ⟨a, rfl, R i j a hf ha⟩
theorem rvs_ok {f : Nat → Option Nat} {as bs : List Nat} (R : Ren f as bs) : ∀ {l m x : List Value}, rvs f l = some m → vrs as l x → vrs bs m x
  | [], _, _, h, hx => by cases h; exact hx
  | v :: l, _, _, h, hx => by
    unfold rvs at h
    cases h1 : rv f v with
    | none => rw [h1] at h; cases h
    | some w =>
      rw [h1] at h
      cases h2 : rvs f l with
      | none => rw [h2] at h; cases h
      | some t =>
        rw [h2] at h
        cases h
        obtain ⟨y, r, rfl, h3, h4⟩ := hx
        exact vrs_cv (rv_ok R h1 h3) (rvs_ok R h2 h4)
theorem ro_ok {f : Nat → Option Nat} {as bs : List Nat} (R : Ren f as bs) {v w x : Option Nat} (h : ro f v = some w) (hx : orr as v x) : orr bs w x := by
  cases v with
  | none => cases h; exact hx
  | some i =>
    have h : (f i).bind (fun j => fN j (fun j => some (some j))) = some w := h
    cases hf : f i with
    | none => rw [hf] at h; cases h
    | some j =>
      rw [hf, Option.bind_some, fN_eq] at h
      cases h
      obtain ⟨a, rfl, ha⟩ := hx
      exact ⟨a, rfl, R i j a hf ha⟩
theorem ros_ok {f : Nat → Option Nat} {as bs : List Nat} (R : Ren f as bs) : ∀ {l m : List (Option Nat)}, ros f l = some m → m.length = l.length ∧ ∀ (g : Nat → Option Nat), (∀ j, orr as (l.getD j none) (g j)) → ∀ j, orr bs (m.getD j none) (g j)
  | [], _, h => by cases h; exact ⟨rfl, fun g hg j => hg j⟩
  | v :: l, _, h => by
    unfold ros at h
    cases h1 : ro f v with
    | none => rw [h1] at h; cases h
    | some w =>
      rw [h1] at h
      cases h2 : ros f l with
      | none => rw [h2] at h; cases h
      | some t =>
        rw [h2] at h
        cases h
        obtain ⟨e1, e2⟩ := ros_ok R h2
        refine ⟨by rw [List.length_cons, List.length_cons, e1], fun g hg j => ?_⟩
        cases j with
        | zero => exact ro_ok R h1 (hg 0)
        | succ j => exact e2 (fun j => g (j + 1)) (fun j => hg (j + 1)) j
theorem rc_ok {f : Nat → Option Nat} {as bs : List Nat} (R : Ren f as bs) {tys u : List (ClassId × FieldType)} {c d : xC} {e : va_E} (h : rc f c = some d) (hc : cr as tys c e) : cr bs (tys ++ u) d e := by
  obtain q | ⟨ty, l | l | l⟩ := c
  · have h : (rvs f q.2).map (fun w => Sum.inl (q.1, w)) = some d := h
    cases h1 : rvs f q.2 with
    | none => rw [h1] at h; cases h
    | some w =>
      rw [h1] at h
      cases h
      obtain ⟨x, h2, h3⟩ := hc
      exact ⟨x, h2, rvs_ok R h1 h3⟩
  · cases h
    obtain ⟨cA, t0, h1, h2⟩ := hc
    exact ⟨cA, t0, tys_app h1, h2⟩
  · cases h
    obtain ⟨cA, t0, h1, h2⟩ := hc
    exact ⟨cA, t0, tys_app h1, h2⟩
  · have h : (ros f l).map (fun w => Sum.inr (ty, Sum.inr (Sum.inr w))) = some d := h
    cases h1 : ros f l with
    | none => rw [h1] at h; cases h
    | some w =>
      rw [h1] at h
      cases h
      obtain ⟨cA, t0, g, h2, h3, h4⟩ := hc
      obtain ⟨e1, e2⟩ := ros_ok R h1
      exact ⟨cA, t0, g, tys_app h2, by rw [e1]; exact h3, e2 g h4⟩
theorem rcs_at {f : Nat → Option Nat} : ∀ {l m : List xC}, rcs f l = some m → m.length = l.length ∧ ∀ (k : Nat) (d : xC), m[k]? = some d → ∃ c, l[k]? = some c ∧ rc f c = some d
  | [], _, h => by cases h; exact ⟨rfl, fun k d hk => by simp at hk⟩
  | v :: l, _, h => by
    unfold rcs at h
    cases h1 : rc f v with
    | none => rw [h1] at h; cases h
    | some w =>
      rw [h1] at h
      cases h2 : rcs f l with
      | none => rw [h2] at h; cases h
      | some t =>
        rw [h2] at h
        cases h
        obtain ⟨e1, e2⟩ := rcs_at h2
        refine ⟨by rw [List.length_cons, List.length_cons, e1], fun k d hk => ?_⟩
        cases k with
        | zero => simp at hk; subst hk; exact ⟨v, by simp, h1⟩
        | succ k => simp at hk; obtain ⟨c, g1, g2⟩ := e2 k d hk; exact ⟨c, by simpa using g1, g2⟩
/-- the place of a number in a list -/
def sp : List Nat → Nat → Option Nat
  | [], _ => none
  | j :: l, i => bif Nat.beq j i then some 0 else (sp l i).map (fun k => k + 1)
theorem sp_at : ∀ {J : List Nat} {i k : Nat}, sp J i = some k → J[k]? = some i
  | [], _, _, h => by cases h
  | j :: l, i, k, h => by
    unfold sp at h
    cases hb : Nat.beq j i
    · rw [hb] at h
      cases h1 : sp l i with
      | none => rw [h1] at h; cases h
      | some q =>
        rw [h1] at h
        cases h
        simpa using sp_at h1
    · rw [hb] at h
      cases h
      have := Nat.eq_of_beq_eq_true hb
      simp [this]
def ndp : List Nat → Bool
  | [] => true
  | j :: l => (sp l j).isNone && ndp l
theorem sp_none : ∀ {J : List Nat} {i : Nat}, sp J i = none → i ∉ J
  | [], _, _ => by simp
  | j :: l, i, h => by
    unfold sp at h
    cases hb : Nat.beq j i
    · rw [hb] at h
      have h1 : sp l i = none := by
        cases h1 : sp l i with
        | none => rfl
        | some q => rw [h1] at h; cases h
      intro hm
      rcases List.mem_cons.mp hm with e | e
      · rw [e] at hb
        rw [Nat.beq_refl] at hb
        cases hb
      · exact sp_none h1 e
    · rw [hb] at h
      cases h
theorem sp_ofnd : ∀ {J : List Nat}, ndp J = true → ∀ {k i : Nat}, J[k]? = some i → sp J i = some k
  | [], _, _, _, h => by simp at h
  | j :: l, hn, k, i, h => by
    unfold ndp at hn
    rw [Bool.and_eq_true] at hn
    unfold sp
    cases k with
    | zero =>
      simp at h
      subst h
      rw [Nat.beq_refl]
      rfl
    | succ k =>
      have h : l[k]? = some i := by simpa using h
      have hne : Nat.beq j i = false := by
        cases hb : Nat.beq j i
        · rfl
        · have e := Nat.eq_of_beq_eq_true hb
          subst e
          have h2 : sp l j = none := by simpa using hn.1
          exact absurd (List.mem_of_getElem? h) (sp_none h2)
      rw [hne, sp_ofnd hn.2 h]
      rfl
/-- the callee's cells laid back -/
def mg {α : Type} (h : List α) (J : List Nat) (cs : List α) : List α := match J with
  | [] => h ++ cs
  | j :: J => match cs with
    | [] => h
    | c :: t => mg (h.set j c) J t
theorem mg_n {α : Type} (h cs : List α) : mg h [] cs = h ++ cs := by unfold mg; rfl
theorem mg_c {α : Type} (h : List α) (j : Nat) (J : List Nat) (c : α) (t : List α) : mg h (j :: J) (c :: t) = mg (h.set j c) J t := by rw [mg]
theorem sp_c (j : Nat) (l : List Nat) (i : Nat) : sp (j :: l) i = bif Nat.beq j i then some 0 else (sp l i).map (fun k => k + 1) := rfl
theorem mg_len {α : Type} : ∀ {J : List Nat} {h cs : List α}, J.length ≤ cs.length → (mg h J cs).length = h.length + (cs.length - J.length)
  | [], h, cs, _ => by rw [mg_n]; simp
  | j :: J, h, [], hl => by simp at hl
  | j :: J, h, c :: cs, hl => by
    rw [mg_c, mg_len (by simpa using hl)]
    simp
theorem mg_at {α : Type} : ∀ {J : List Nat} {h cs : List α}, J.length ≤ cs.length → ndp J = true → (∀ j ∈ J, j < h.length) → ∀ i, (mg h J cs)[i]? = if i < h.length then (match sp J i with | some k => cs[k]? | none => h[i]?) else cs[J.length + (i - h.length)]?
  | [], h, cs, _, _, _, i => by
    rw [mg_n]
    by_cases hi : i < h.length
    · rw [if_pos hi, List.getElem?_append_left hi]; rfl
    · rw [if_neg hi, List.getElem?_append_right (by omega)]
      simp
  | j :: J, h, [], hl, _, _, _ => by simp at hl
  | j :: J, h, c :: cs, hl, hn, hj, i => by
    unfold ndp at hn
    rw [Bool.and_eq_true] at hn
    have ih := mg_at (J := J) (h := h.set j c) (cs := cs) (by simpa using hl) hn.2 (fun q hq => by rw [List.length_set]; exact hj q (List.mem_cons_of_mem _ hq)) i
    rw [mg_c, ih, List.length_set]
    by_cases hi : i < h.length
    · rw [if_pos hi, if_pos hi, sp_c]
      cases hb : Nat.beq j i
      · have hne : ¬ j = i := fun e => by rw [e, Nat.beq_refl] at hb; cases hb
        rw [cond_false]
        cases h1 : sp J i with
        | none => exact List.getElem?_set_ne hne
        | some k => simp
      · have e := Nat.eq_of_beq_eq_true hb
        subst e
        have h2 : sp J j = none := by simpa using hn.1
        rw [h2, cond_true]
        simp [hi]
    · rw [if_neg hi, if_neg hi, List.length_cons, show J.length + 1 + (i - h.length) = (J.length + (i - h.length)) + 1 by omega]
      simp
/-- which cells a call may reach -/
def c_refs (c : xC) : List Nat := match c with
  | .inl q => q.2.filterMap (fun v => match v with | .ref i => some i | _ => none)
  | .inr (_, .inr (.inr x)) => x.filterMap id
  | _ => []
def v_refs (vs : List Value) : List Nat := vs.filterMap (fun v => match v with | .ref i => some i | _ => none)
def bfs (h : xH) : Nat → List Nat → List Nat → Option (List Nat)
  | 0, _, _ => none
  | _ + 1, [], seen => some seen
  | n + 1, i :: todo, seen => match sp seen i with
    | some _ => bfs h n todo seen
    | none => (h[i]?).bind (fun c => bfs h n (c_refs c ++ todo) (seen ++ [i]))
def pick (h : xH) : List Nat → Option (List xC)
  | [] => some []
  | j :: J => (h[j]?).bind (fun c => (pick h J).map (fun m => c :: m))
theorem pick_at {h : xH} : ∀ {J : List Nat} {m : List xC}, pick h J = some m → m.length = J.length ∧ ∀ (k j : Nat), J[k]? = some j → ∃ c, h[j]? = some c ∧ m[k]? = some c
  | [], _, hp => by cases hp; exact ⟨rfl, fun k j hk => by simp at hk⟩
  | q :: J, _, hp => by
    unfold pick at hp
    cases h1 : h[q]? with
    | none => rw [h1] at hp; cases hp
    | some c =>
      rw [h1] at hp
      cases h2 : pick h J with
      | none => rw [h2] at hp; cases hp
      | some t =>
        rw [h2] at hp
        cases hp
        obtain ⟨e1, e2⟩ := pick_at h2
        refine ⟨by rw [List.length_cons, List.length_cons, e1], fun k j hk => ?_⟩
        cases k with
        | zero => simp at hk; subst hk; exact ⟨c, h1, by simp⟩
        | succ k => simp at hk; obtain ⟨d, g1, g2⟩ := e2 k j hk; exact ⟨d, g1, by simpa using g2⟩
/-- the part: its places, its cells under their new numbers, the arguments likewise -/
noncomputable def cut (h : xH) (avs : List Value) : Option (List Nat × List xC × List Value) := (bfs h 64 (v_refs avs) []).bind (fun J => x_ck (ndp J) ((pick h J).bind (fun cs => (rcs (sp J) cs).bind (fun ds => (rvs (sp J) avs).map (fun ws => (J, ds, ws))))))
theorem cut_v {h : xH} {avs : List Value} {J : List Nat} {ds : List xC} {bvs : List Value} (hc : cut h avs = some (J, ds, bvs)) : ndp J = true ∧ ∃ cs, pick h J = some cs ∧ rcs (sp J) cs = some ds ∧ rvs (sp J) avs = some bvs := by
  unfold cut at hc
  cases h1 : bfs h 64 (v_refs avs) [] with
  | none => rw [h1] at hc; cases hc
  | some J' =>
    rw [h1] at hc
    obtain ⟨h2, h3⟩ := x_ck_v hc
    cases h4 : pick h J' with
    | none => rw [h4] at h3; cases h3
    | some cs =>
      rw [h4] at h3
      cases h5 : rcs (sp J') cs with
      | none => rw [Option.bind_some, h5] at h3; cases h3
      | some ds' =>
        rw [Option.bind_some, h5] at h3
        cases h6 : rvs (sp J') avs with
        | none => rw [Option.bind_some, h6] at h3; cases h3
        | some b =>
          rw [Option.bind_some, h6] at h3
          cases h3
          exact ⟨h2, cs, h4, h5, h6⟩
/-- the way back -/
def bk (J : List Nat) (n k : Nat) : Option Nat := if k < J.length then J[k]? else some (n + (k - J.length))
