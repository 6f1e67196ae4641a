/-! the machine once more, its cells in a tree of three levels of nine: for the kernel; no cells are made; calls on all cells -/
abbrev xT : Type := List (List (List xC))
def tg (t : xT) (i : Nat) : Option xC := ((t.getD (i / 81) []).getD (i / 9 % 9) [])[i % 9]?
def tset (t : xT) (i : Nat) (c : xC) : xT := t.set (i / 81) ((t.getD (i / 81) []).set (i / 9 % 9) (((t.getD (i / 81) []).getD (i / 9 % 9) []).set (i % 9) c))
def rep (t : xT) (h : xH) : Prop := ∀ i, tg t i = h[i]?
theorem gd_if {α : Type} (l : List α) (i j : Nat) (v d : α) (h : i < l.length) : (l.set i v).getD j d = if i = j then v else l.getD j d := by
  by_cases e : i = j
  · subst e; rw [if_pos rfl]; simp [List.getD, h]
  · rw [if_neg e]; simp [List.getD, List.getElem?_set_ne e]
theorem rep_set {t : xT} {h : xH} (R : rep t h) {i : Nat} {c : xC} {d : xC} (hi : h[i]? = some d) : rep (tset t i c) (h.set i c) := by
  have h0 := R i
  rw [hi] at h0
  have hl := (List.getElem?_eq_some_iff.mp hi).1
  unfold tg at h0
  have h3 : i % 9 < ((t.getD (i / 81) []).getD (i / 9 % 9) []).length := (List.getElem?_eq_some_iff.mp h0).1
  have h2 : i / 9 % 9 < (t.getD (i / 81) []).length := by
    rcases Nat.lt_or_ge (i / 9 % 9) (t.getD (i / 81) []).length with q | q
    · exact q
    · have e : (t.getD (i / 81) []).getD (i / 9 % 9) [] = [] := by rw [List.getD_eq_getElem?_getD, List.getElem?_eq_none q]; rfl
      rw [e] at h3; simp at h3
  have h1 : i / 81 < t.length := by
    rcases Nat.lt_or_ge (i / 81) t.length with q | q
    · exact q
    · have e : t.getD (i / 81) [] = [] := by rw [List.getD_eq_getElem?_getD, List.getElem?_eq_none q]; rfl
      rw [e] at h2; simp at h2
  intro j
  unfold tg tset
  rw [gd_if _ _ _ _ _ h1]
  have Rj := R j
  unfold tg at Rj
  by_cases e1 : i / 81 = j / 81
  · rw [if_pos e1, gd_if _ _ _ _ _ h2]
    by_cases e2 : i / 9 % 9 = j / 9 % 9
    · rw [if_pos e2]
      by_cases e3 : i % 9 = j % 9
      · have e : i = j := by omega
        subst e
        rw [List.getElem?_set_self h3, List.getElem?_set_self hl]
      · have e : i ≠ j := fun e => e3 (by rw [e])
        rw [List.getElem?_set_ne e3, List.getElem?_set_ne e, ← Rj, e1, e2]
    · have e : i ≠ j := fun e => e2 (by rw [e])
      rw [if_neg e2, List.getElem?_set_ne e, ← Rj, e1]
  · have e : i ≠ j := fun e => e1 (by rw [e])
    rw [if_neg e1, List.getElem?_set_ne e, ← Rj]
/-- a list, its spine laid open -/
noncomputable def frL {α β : Type} (l : List α) : (List α → β) → β := List.rec (motive := fun _ => (List α → β) → β) (fun k => k []) (fun x _ ih k => ih (fun t => k (x :: t))) l
theorem frL_eq {α β : Type} (l : List α) (k : List α → β) : frL l k = k l := by
  induction l generalizing k with
  | nil => rfl
  | cons x t ih => exact ih (fun t => k (x :: t))
/-- numbers reckoned out -/
noncomputable def fI {β : Type} (x : Int32) (k : Int32 → β) : β := fN x.toBitVec.toNat (fun n => k (Int32.ofNat n))
theorem fI_eq {β : Type} (x : Int32) (k : Int32 → β) : fI x k = k x := by
  unfold fI
  rw [fN_eq]
  congr 1
  apply Int32.toBitVec_inj.mp
  simp [Int32.ofNat]
noncomputable def fL {β : Type} (x : Int64) (k : Int64 → β) : β := fN x.toBitVec.toNat (fun n => k (Int64.ofNat n))
theorem fL_eq {β : Type} (x : Int64) (k : Int64 → β) : fL x k = k x := by
  unfold fL
  rw [fN_eq]
  congr 1
  apply Int64.toBitVec_inj.mp
  simp [Int64.ofNat]
noncomputable def fV {β : Type} (v : Value) (k : Value → β) : β := match v with
  | .int x => fI x (fun x => k (.int x))
  | .long x => fL x (fun x => k (.long x))
  | v => k v
theorem fV_eq {β : Type} (v : Value) (k : Value → β) : fV v k = k v := by
  cases v with
  | int x => exact fI_eq x (fun x => k (.int x))
  | long x => exact fL_eq x (fun x => k (.long x))
  | _ => rfl
noncomputable def ts3 {β : Type} (t : xT) (i : Nat) (c : xC) (k : xT → β) : β := (fun m => (fun l => frL (l.set (i % 9) c) (fun l => frL (m.set (i / 9 % 9) l) (fun m => frL (t.set (i / 81) m) k))) (m.getD (i / 9 % 9) [])) (t.getD (i / 81) [])
theorem ts3_eq {β : Type} (t : xT) (i : Nat) (c : xC) (k : xT → β) : ts3 t i c k = k (tset t i c) := by
  unfold ts3 tset
  simp only [frL_eq]
def t_o {α : Type} (t : xT) (a : Nat) (f : Nat → List Value → Option α) : Option α := match tg t a with
  | some (.inl q) => f q.1 q.2
  | _ => none
def t_i {α : Type} (ty : FieldType) (t : xT) (a : Nat) (f : List Int32 → Option α) : Option α := match tg t a with
  | some (.inr (u, .inl x)) => if u = ty then f x else none
  | _ => none
def t_l {α : Type} (t : xT) (a : Nat) (f : List Int64 → Option α) : Option α := match tg t a with
  | some (.inr (u, .inr (.inl x))) => if u = .long then f x else none
  | _ => none
def t_q {α : Type} (t : xT) (a : Nat) (f : String → List (Option Nat) → Option α) : Option α := match tg t a with
  | some (.inr (.object C, .inr (.inr x))) => f C x
  | _ => none
theorem t_o_v {α : Type} {t : xT} {h : xH} (R : rep t h) {a : Nat} {f : Nat → List Value → Option α} {o : α} (hh : t_o t a f = some o) : ∃ ci vs, h[a]? = some (.inl (ci, vs)) ∧ f ci vs = some o := by
  unfold t_o at hh
  rw [R a] at hh
  split at hh
  · next q e => exact ⟨q.1, q.2, e, hh⟩
  · cases hh
theorem t_i_v {α : Type} {ty : FieldType} {t : xT} {h : xH} (R : rep t h) {a : Nat} {f : List Int32 → Option α} {o : α} (hh : t_i ty t a f = some o) : ∃ x, h[a]? = some (.inr (ty, .inl x)) ∧ f x = some o := by
  unfold t_i at hh
  rw [R a] at hh
  split at hh
  · next u x e =>
    split at hh
    · next e2 => subst e2; exact ⟨x, e, hh⟩
    · cases hh
  · cases hh
theorem t_l_v {α : Type} {t : xT} {h : xH} (R : rep t h) {a : Nat} {f : List Int64 → Option α} {o : α} (hh : t_l t a f = some o) : ∃ x, h[a]? = some (.inr (.long, .inr (.inl x))) ∧ f x = some o := by
  unfold t_l at hh
  rw [R a] at hh
  split at hh
  · next u x e =>
    split at hh
    · next e2 => subst e2; exact ⟨x, e, hh⟩
    · cases hh
  · cases hh
theorem t_q_v {α : Type} {t : xT} {h : xH} (R : rep t h) {a : Nat} {f : String → List (Option Nat) → Option α} {o : α} (hh : t_q t a f = some o) : ∃ C x, h[a]? = some (.inr (.object C, .inr (.inr x))) ∧ f C x = some o := by
  unfold t_q at hh
  rw [R a] at hh
  split at hh
  · next C x e => exact ⟨C, x, e, hh⟩
  · cases hh
abbrev tR : Type := Option Value × xT
abbrev tC : Type := Nat → xL → List Value → xT → Option tR
/-- numbers in the locals reckoned out where one is put there -/
noncomputable def fLo (i : Instr) (lv : xL) (k : xL → Option tR) : Option tR := match i with
  | .istore_n _ | .istore _ | .iinc _ _ | .lstore_n _ | .lstore _ => (match lv with
    | q :: l => fV q.2 (fun v => frL l (fun l => k ((q.1, v) :: l)))
    | [] => k [])
  | .astore_n _ | .astore _ => frL lv k
  | _ => k lv
theorem fLo_eq (i : Instr) (lv : xL) (k : xL → Option tR) : fLo i lv k = k lv := by
  unfold fLo
  split
  · split
    · rw [fV_eq, frL_eq]
    · rfl
  · split
    · rw [fV_eq, frL_eq]
    · rfl
  · split
    · rw [fV_eq, frL_eq]
    · rfl
  · split
    · rw [fV_eq, frL_eq]
    · rfl
  · split
    · rw [fV_eq, frL_eq]
    · rfl
  · rw [frL_eq]
  · rw [frL_eq]
  · rfl
noncomputable def t_hs (X : xProg) (mi : Nat) (i : Instr) (pc : Nat) : xL → List Value → xT → tC → Option tR := match i with
  | .getfield idx => fun lv st t k => y_r st (fun a r => t_o t a (fun cj vs => (xfld X mi idx).bind (fun q => x_ck (Nat.beq q.1 cj && Nat.blt q.2 (xnf X q.1)) ((vs[q.2]?).bind (fun v => k (pc + 3) lv (v :: r) t)))))
  | .putfield idx => fun lv st t k => y_v st (fun v st => fV v (fun v => y_r st (fun a r => t_o t a (fun cj vs => (xfld X mi idx).bind (fun q => x_ck (Nat.beq q.1 cj && (Nat.blt q.2 (xnf X q.1) && (Nat.blt q.2 vs.length && (decide (narrow (xft X q.1 q.2) v = v) && (fits (xft X q.1 q.2) v && xput X mi idx))))) (frL (vs.set q.2 v) (fun vs => ts3 t a (.inl (cj, vs)) (fun t => k (pc + 3) lv r t))))))))
  | .iaload => fun lv st t k => y_i st (fun j st => y_r st (fun a r => t_i .int t a (fun x => x_ck (x_in j x.length) (k (pc + 1) lv (.int (x.getD j.toNatClampNeg 0) :: r) t))))
  | .caload => fun lv st t k => y_i st (fun j st => y_r st (fun a r => t_i .char t a (fun x => x_ck (x_in j x.length) (k (pc + 1) lv (.int (x.getD j.toNatClampNeg 0) :: r) t))))
  | .baload => fun lv st t k => y_i st (fun j st => y_r st (fun a r => t_i .boolean t a (fun x => x_ck (x_in j x.length) (k (pc + 1) lv (.int (x.getD j.toNatClampNeg 0) :: r) t))))
  | .laload => fun lv st t k => y_i st (fun j st => y_r st (fun a r => t_l t a (fun x => x_ck (x_in j x.length) (k (pc + 1) lv (.long (x.getD j.toNatClampNeg 0) :: r) t))))
  | .aaload => fun lv st t k => y_i st (fun j st => y_r st (fun a r => t_q t a (fun _ x => x_ck (x_in j x.length) (k (pc + 1) lv (va_rf (x.getD j.toNatClampNeg none) :: r) t))))
  | .iastore => fun lv st t k => y_i st (fun y st => fI y (fun y => y_i st (fun j st => y_r st (fun a r => t_i .int t a (fun x => x_ck (x_in j x.length) (frL (x.set j.toNatClampNeg y) (fun x => ts3 t a (.inr (.int, .inl x)) (fun t => k (pc + 1) lv r t))))))))
  | .castore => fun lv st t k => y_i st (fun y st => fI y (fun y => y_i st (fun j st => y_r st (fun a r => t_i .char t a (fun x => x_ck (x_in j x.length) (frL (x.set j.toNatClampNeg (vp_nar .char y)) (fun x => ts3 t a (.inr (.char, .inl x)) (fun t => k (pc + 1) lv r t))))))))
  | .bastore => fun lv st t k => y_i st (fun y st => fI y (fun y => y_i st (fun j st => y_r st (fun a r => t_i .boolean t a (fun x => x_ck (x_in j x.length) (frL (x.set j.toNatClampNeg (vp_nar .boolean y)) (fun x => ts3 t a (.inr (.boolean, .inl x)) (fun t => k (pc + 1) lv r t))))))))
  | .lastore => fun lv st t k => y_l st (fun y st => fL y (fun y => y_i st (fun j st => y_r st (fun a r => t_l t a (fun x => x_ck (x_in j x.length) (frL (x.set j.toNatClampNeg y) (fun x => ts3 t a (.inr (.long, .inr (.inl x))) (fun t => k (pc + 1) lv r t))))))))
  | .aastore => fun lv st t k => y_r st (fun b st => y_i st (fun j st => y_r st (fun a r => t_q t a (fun C x => t_o t b (fun ci _ => x_ck (x_in j x.length && decide (xcn X ci = C)) (frL (x.set j.toNatClampNeg (some b)) (fun x => ts3 t a (.inr (.object C, .inr (.inr x))) (fun t => k (pc + 1) lv r t))))))))
  | .if_acmp q off => fun lv st t k => y_r st (fun j st => y_r st (fun i r => (x_tg pc off).bind (fun u => k (bif (match q with | .eq => Nat.beq i j | .ne => !(Nat.beq i j)) then u else pc + 3) lv r t)))
  | .arraylength => fun lv st t k => y_r st (fun a r => match tg t a with
    | some (.inr (_, .inl x)) => k (pc + 1) lv (.int (Int32.ofNat x.length) :: r) t
    | some (.inr (_, .inr (.inl x))) => k (pc + 1) lv (.int (Int32.ofNat x.length) :: r) t
    | some (.inr (_, .inr (.inr x))) => k (pc + 1) lv (.int (Int32.ofNat x.length) :: r) t
    | _ => none)
  | .new _ => fun _ _ _ _ => none
  | .newarray _ => fun _ _ _ _ => none
  | .anewarray _ => fun _ _ _ _ => none
  | .ldc idx => fun lv st t k => (xki X mi idx).bind (fun v => k (pc + 2) lv (.int v :: st) t)
  | .ldc2_w idx => fun lv st t k => (xkl X mi idx).bind (fun v => k (pc + 3) lv (.long v :: st) t)
  | i => fun lv st t k => (x_op2 (xml X mi) i pc lv st).bind (fun o => fLo i o.2.1 (fun lv => k o.1 lv o.2.2 t))
/-- a step there is one here -/
theorem t_hs_v {X : xProg} {mi : Nat} {i : Instr} {pc : Nat} {lv : xL} {st : List Value} {t : xT} {h : xH} {k : tC} {r : tR} (R : rep t h) (hk : t_hs X mi i pc lv st t k = some r) : ∃ pc' lv' st' t' h', x_hs X mi i pc lv st h = some ((pc', lv', st'), h', 0, 0) ∧ rep t' h' ∧ h'.length = h.length ∧ k pc' lv' st' t' = some r := by
  have dflt : t_hs X mi i pc lv st t k = (x_op2 (xml X mi) i pc lv st).bind (fun o => fLo i o.2.1 (fun lv => k o.1 lv o.2.2 t)) → x_hs X mi i pc lv st h = (x_op (xml X mi) i pc lv st).map (fun o => (o, h, 0, 0)) → ∃ pc' lv' st' t' h', x_hs X mi i pc lv st h = some ((pc', lv', st'), h', 0, 0) ∧ rep t' h' ∧ h'.length = h.length ∧ k pc' lv' st' t' = some r := by
    intro e1 e2
    rw [e1, x_op2_eq] at hk
    cases ho : x_op (xml X mi) i pc lv st with
    | none => rw [ho] at hk; cases hk
    | some o =>
      rw [ho, Option.bind_some, fLo_eq] at hk
      exact ⟨o.1, o.2.1, o.2.2, t, h, by rw [e2, ho]; rfl, R, rfl, hk⟩
  cases i with
  | getfield idx =>
    obtain ⟨a, r', rfl, h1⟩ := y_r_v hk
    obtain ⟨cj, vs, h2, h3⟩ := t_o_v R h1
    cases hf : xfld X mi idx with
    | none => rw [hf] at h3; cases h3
    | some q =>
      rw [hf, Option.bind_some] at h3
      obtain ⟨h4, h5⟩ := x_ck_v h3
      cases hv : vs[q.2]? with
      | none => rw [hv] at h5; cases h5
      | some v =>
        rw [hv, Option.bind_some] at h5
        exact ⟨_, _, _, t, h, by simp only [x_hs, y_r, h_o, h2, hf, Option.bind_some, x_ck, h4, cond_true, hv, Option.map_some], R, rfl, h5⟩
  | putfield idx =>
    obtain ⟨v, st1, rfl, h0⟩ := y_v_v hk
    rw [fV_eq] at h0
    obtain ⟨a, r', rfl, h1⟩ := y_r_v h0
    obtain ⟨cj, vs, h2, h3⟩ := t_o_v R h1
    cases hf : xfld X mi idx with
    | none => rw [hf] at h3; cases h3
    | some q =>
      rw [hf, Option.bind_some] at h3
      obtain ⟨h4, h5⟩ := x_ck_v h3
      rw [frL_eq, ts3_eq] at h5
      exact ⟨_, _, _, _, h.set a (.inl (cj, vs.set q.2 v)), by simp only [x_hs, y_v, y_r, h_o, h2, hf, Option.bind_some, x_ck, h4, cond_true], rep_set R h2, by rw [List.length_set], h5⟩
  | iaload =>
    obtain ⟨j, st1, rfl, h0⟩ := y_i_v hk
    obtain ⟨a, r', rfl, h1⟩ := y_r_v h0
    obtain ⟨x, h2, h3⟩ := t_i_v R h1
    obtain ⟨h4, h5⟩ := x_ck_v h3
    exact ⟨_, _, _, t, h, by simp only [x_hs, y_i, y_r, h_i, h2, if_true, x_ck, h4, cond_true], R, rfl, h5⟩
  | caload =>
    obtain ⟨j, st1, rfl, h0⟩ := y_i_v hk
    obtain ⟨a, r', rfl, h1⟩ := y_r_v h0
    obtain ⟨x, h2, h3⟩ := t_i_v R h1
    obtain ⟨h4, h5⟩ := x_ck_v h3
    exact ⟨_, _, _, t, h, by simp only [x_hs, y_i, y_r, h_i, h2, if_true, x_ck, h4, cond_true], R, rfl, h5⟩
  | baload =>
    obtain ⟨j, st1, rfl, h0⟩ := y_i_v hk
    obtain ⟨a, r', rfl, h1⟩ := y_r_v h0
    obtain ⟨x, h2, h3⟩ := t_i_v R h1
    obtain ⟨h4, h5⟩ := x_ck_v h3
    exact ⟨_, _, _, t, h, by simp only [x_hs, y_i, y_r, h_i, h2, if_true, x_ck, h4, cond_true], R, rfl, h5⟩
  | laload =>
    obtain ⟨j, st1, rfl, h0⟩ := y_i_v hk
    obtain ⟨a, r', rfl, h1⟩ := y_r_v h0
    obtain ⟨x, h2, h3⟩ := t_l_v R h1
    obtain ⟨h4, h5⟩ := x_ck_v h3
    exact ⟨_, _, _, t, h, by simp only [x_hs, y_i, y_r, h_l, h2, if_true, x_ck, h4, cond_true], R, rfl, h5⟩
  | aaload =>
    obtain ⟨j, st1, rfl, h0⟩ := y_i_v hk
    obtain ⟨a, r', rfl, h1⟩ := y_r_v h0
    obtain ⟨C, x, h2, h3⟩ := t_q_v R h1
    obtain ⟨h4, h5⟩ := x_ck_v h3
    exact ⟨_, _, _, t, h, by simp only [x_hs, y_i, y_r, h_q, h2, x_ck, h4, cond_true], R, rfl, h5⟩
  | iastore =>
    obtain ⟨y, st2, rfl, h9⟩ := y_i_v hk
    rw [fI_eq] at h9
    obtain ⟨j, st1, rfl, h0⟩ := y_i_v h9
    obtain ⟨a, r', rfl, h1⟩ := y_r_v h0
    obtain ⟨x, h2, h3⟩ := t_i_v R h1
    obtain ⟨h4, h5⟩ := x_ck_v h3
    rw [frL_eq, ts3_eq] at h5
    exact ⟨_, _, _, _, h.set a (.inr (.int, .inl (x.set j.toNatClampNeg y))), by simp only [x_hs, y_i, y_r, h_i, h2, if_true, x_ck, h4, cond_true], rep_set R h2, by rw [List.length_set], h5⟩
  | castore =>
    obtain ⟨y, st2, rfl, h9⟩ := y_i_v hk
    rw [fI_eq] at h9
    obtain ⟨j, st1, rfl, h0⟩ := y_i_v h9
    obtain ⟨a, r', rfl, h1⟩ := y_r_v h0
    obtain ⟨x, h2, h3⟩ := t_i_v R h1
    obtain ⟨h4, h5⟩ := x_ck_v h3
    rw [frL_eq, ts3_eq] at h5
    exact ⟨_, _, _, _, h.set a (.inr (.char, .inl (x.set j.toNatClampNeg (vp_nar .char y)))), by simp only [x_hs, y_i, y_r, h_i, h2, if_true, x_ck, h4, cond_true], rep_set R h2, by rw [List.length_set], h5⟩
  | bastore =>
    obtain ⟨y, st2, rfl, h9⟩ := y_i_v hk
    rw [fI_eq] at h9
    obtain ⟨j, st1, rfl, h0⟩ := y_i_v h9
    obtain ⟨a, r', rfl, h1⟩ := y_r_v h0
    obtain ⟨x, h2, h3⟩ := t_i_v R h1
    obtain ⟨h4, h5⟩ := x_ck_v h3
    rw [frL_eq, ts3_eq] at h5
    exact ⟨_, _, _, _, h.set a (.inr (.boolean, .inl (x.set j.toNatClampNeg (vp_nar .boolean y)))), by simp only [x_hs, y_i, y_r, h_i, h2, if_true, x_ck, h4, cond_true], rep_set R h2, by rw [List.length_set], h5⟩
  | lastore =>
    obtain ⟨y, st2, rfl, h9⟩ := y_l_v hk
    rw [fL_eq] at h9
    obtain ⟨j, st1, rfl, h0⟩ := y_i_v h9
    obtain ⟨a, r', rfl, h1⟩ := y_r_v h0
    obtain ⟨x, h2, h3⟩ := t_l_v R h1
    obtain ⟨h4, h5⟩ := x_ck_v h3
    rw [frL_eq, ts3_eq] at h5
    exact ⟨_, _, _, _, h.set a (.inr (.long, .inr (.inl (x.set j.toNatClampNeg y)))), by simp only [x_hs, y_l, y_i, y_r, h_l, h2, if_true, x_ck, h4, cond_true], rep_set R h2, by rw [List.length_set], h5⟩
  | aastore =>
    obtain ⟨b, st2, rfl, h9⟩ := y_r_v hk
    obtain ⟨j, st1, rfl, h0⟩ := y_i_v h9
    obtain ⟨a, r', rfl, h1⟩ := y_r_v h0
    obtain ⟨C, x, h2, h3⟩ := t_q_v R h1
    obtain ⟨ci, vs, h6, h7⟩ := t_o_v R h3
    obtain ⟨h4, h5⟩ := x_ck_v h7
    rw [frL_eq, ts3_eq] at h5
    exact ⟨_, _, _, _, h.set a (.inr (.object C, .inr (.inr (x.set j.toNatClampNeg (some b))))), by simp only [x_hs, y_i, y_r, h_q, h_o, h2, h6, x_ck, h4, cond_true], rep_set R h2, by rw [List.length_set], h5⟩
  | if_acmp q off =>
    obtain ⟨j, st1, rfl, h0⟩ := y_r_v hk
    obtain ⟨a, r', rfl, h1⟩ := y_r_v h0
    cases ht : x_tg pc off with
    | none => rw [ht] at h1; cases h1
    | some u =>
      rw [ht, Option.bind_some] at h1
      exact ⟨_, _, _, t, h, by simp only [x_hs, y_r, ht, Option.bind_some]; rfl, R, rfl, h1⟩
  | arraylength =>
    obtain ⟨a, r', rfl, h1⟩ := y_r_v hk
    rw [R a] at h1
    split at h1
    · next e => exact ⟨_, _, _, t, h, by simp only [x_hs, y_r, e], R, rfl, h1⟩
    · next e => exact ⟨_, _, _, t, h, by simp only [x_hs, y_r, e], R, rfl, h1⟩
    · next e => exact ⟨_, _, _, t, h, by simp only [x_hs, y_r, e], R, rfl, h1⟩
    · cases h1
  | new _ => cases hk
  | newarray _ => cases hk
  | anewarray _ => cases hk
  | ldc idx =>
    have h1 : (xki X mi idx).bind (fun v => k (pc + 2) lv (.int v :: st) t) = some r := hk
    cases hv : xki X mi idx with
    | none => rw [hv] at h1; cases h1
    | some v => rw [hv, Option.bind_some] at h1; exact ⟨_, _, _, t, h, by simp only [x_hs, hv, Option.bind_some], R, rfl, h1⟩
  | ldc2_w idx =>
    have h1 : (xkl X mi idx).bind (fun v => k (pc + 3) lv (.long v :: st) t) = some r := hk
    cases hv : xkl X mi idx with
    | none => rw [hv] at h1; cases h1
    | some v => rw [hv, Option.bind_some] at h1; exact ⟨_, _, _, t, h, by simp only [x_hs, hv, Option.bind_some], R, rfl, h1⟩
  | _ => exact dflt rfl rfl
abbrev tK : Type := Nat → Nat → Nat → Nat → xL → List Value → xT → Option tR
noncomputable def t_go (X : xProg) (ih : tK) (fb lb mi pc : Nat) (lv : xL) (rest : List Value) (t : xT) (mj : Nat) (avs : List Value) : Option tR :=
  x_ck (Nat.ble (x_sum rest) 8 && (Nat.blt 0 fb && (Nat.ble (19 + xml X mj) lb && Nat.ble (lg_sl avs).length (xml X mj)))) ((ih (fb - 1) (lb - (19 + xml X mj)) mj 0 (lv_args 0 avs) [] t).bind (fun r1 => ih fb lb mi (pc + 3) lv (r1.1.toList ++ rest) r1.2))
noncomputable def t_run (X : xProg) (Y : Nat → MethodName) (kd : Nat → Nat) (mi pc : Nat) (i : Instr) : tK → Nat → Nat → xL → List Value → xT → Option tR := match i with
  | .ireturn => fun _ _ _ _ st t => y_i st (fun v r => x_ck r.isEmpty ((xrt X mi).bind (fun ty => fI v (fun v => x_ck (decide (narrow ty (.int v) = .int v)) (some (some (.int v), t))))))
  | .lreturn => fun _ _ _ _ st t => y_l st (fun v r => x_ck (r.isEmpty && decide (xrt X mi = some .long)) (fL v (fun v => some (some (.long v), t))))
  | .areturn => fun _ _ _ _ st t => y_r st (fun a r => x_ck r.isEmpty (match xrt X mi with
    | some (.object _) => some (some (.ref a), t)
    | some (.array _) => some (some (.ref a), t)
    | _ => none))
  | .return_ => fun _ _ _ _ st t => x_ck (st.isEmpty && decide (xrt X mi = none)) (some (none, t))
  | .invokevirtual idx => fun ih fb lb lv st t => (xinv X mi idx).bind (fun q => q.1.bind (fun mj => y_r (st.drop q.2) (fun b rest => t_o t b (fun ci _ => x_ck ((kd mj == 0) && (decide (xcn X ci = (Y mj).cls) && Nat.ble q.2 st.length)) (t_go X ih fb lb mi pc lv rest t mj (.ref b :: (st.take q.2).reverse))))))
  | .invokestatic idx => fun ih fb lb lv st t => (xinv X mi idx).bind (fun q => match q.1 with
    | none => (x_math q.2 st).bind (fun w => x_ck (Nat.blt 0 fb && Nat.ble (x_sum w.2 + 13) lb) (ih fb lb mi (pc + 3) lv (.int w.1 :: w.2) t))
    | some mj => x_ck ((kd mj == 1) && Nat.ble q.2 st.length) (t_go X ih fb lb mi pc lv (st.drop q.2) t mj (st.take q.2).reverse))
  | .invokespecial _ => fun _ _ _ _ _ _ => none
  | i => fun ih fb lb lv st t => t_hs X mi i pc lv st t (fun pc lv st t => ih fb lb mi pc lv st t)
noncomputable def run3 (X : xProg) (Y : Nat → MethodName) (kd : Nat → Nat) (n : Nat) : tK := Nat.rec (motive := fun _ => tK) (fun _ _ _ _ _ _ _ => none) (fun _ ih fb lb mi pc lv st t => (xdec X mi pc).bind (fun i => t_run X Y kd mi pc i ih fb lb lv st t)) n
theorem run3_s (X : xProg) (Y : Nat → MethodName) (kd : Nat → Nat) (n fb lb mi pc : Nat) (lv : xL) (st : List Value) (t : xT) : run3 X Y kd (n + 1) fb lb mi pc lv st t = (xdec X mi pc).bind (fun i => t_run X Y kd mi pc i (run3 X Y kd n) fb lb lv st t) := rfl
theorem run3_ok {X : xProg} {Y : Nat → MethodName} {kd : Nat → Nat} {TH : xTh} : ∀ (n fb lb mi pc : Nat) (lv : xL) (st : List Value) (t : xT) (h : xH) (c s : Nat) (r : tR), rep t h → run3 X Y kd n fb lb mi pc lv st t = some r → ∃ h', Rn X Y kd TH n fb lb mi pc lv st h c s (.inl r.1, h', c, s) ∧ rep r.2 h' ∧ h'.length = h.length := by
  intro n
  induction n with
  | zero => intro fb lb mi pc lv st t h c s r _ hr; cases hr
  | succ n ih =>
    intro fb lb mi pc lv st t h c s r R hr
    rw [run3_s] at hr
    cases hd : xdec X mi pc with
    | none => rw [hd] at hr; cases hr
    | some i =>
      rw [hd, Option.bind_some] at hr
      have fin : ∀ {v : Option Value} {h' : xH}, y_run X Y kd TH (Rn X Y kd TH n) fb lb mi pc lv st h c s (.inl v, h', c, s) i → Rn X Y kd TH (n + 1) fb lb mi pc lv st h c s (.inl v, h', c, s) := fun hh => ⟨i, hd, hh⟩
      have go : ∀ {rest : List Value} {mj : Nat} {avs : List Value} (vt : Prop), t_go X (run3 X Y kd n) fb lb mi pc lv rest t mj avs = some r → ∃ h', y_go X (Rn X Y kd TH n) fb lb mi pc lv rest h c s mj avs vt (.inl r.1, h', c, s) ∧ rep r.2 h' ∧ h'.length = h.length := by
        intro rest mj avs vt hg
        obtain ⟨g1, g2⟩ := x_ck_v hg
        simp only [Bool.and_eq_true] at g1
        cases ho : run3 X Y kd n (fb - 1) (lb - (19 + xml X mj)) mj 0 (lv_args 0 avs) [] t with
        | none => rw [ho] at g2; cases g2
        | some r1 =>
          rw [ho, Option.bind_some] at g2
          obtain ⟨h1, k1, k2, k3⟩ := ih _ _ _ _ _ _ _ _ 0 0 _ R ho
          obtain ⟨h2, k4, k5, k6⟩ := ih _ _ _ _ _ _ _ _ c s _ k2 g2
          exact ⟨h2, ⟨Nat.le_of_ble_eq_true g1.1, Nat.le_of_ble_eq_true g1.2.1, Nat.le_of_ble_eq_true g1.2.2.1, Or.inl ⟨r1.1, h1, 0, 0, Nat.le_of_ble_eq_true g1.2.2.2, k1, k4⟩⟩, k5, k6.trans k3⟩
      have dflt : t_hs X mi i pc lv st t (fun pc lv st t => run3 X Y kd n fb lb mi pc lv st t) = some r → ∃ h', Rn X Y kd TH (n + 1) fb lb mi pc lv st h c s (.inl r.1, h', c, s) ∧ rep r.2 h' ∧ h'.length = h.length := by
        intro e
        obtain ⟨pc', lv', st', t', h', g1, g2, g3, g4⟩ := t_hs_v R e
        obtain ⟨h2, k4, k5, k6⟩ := ih _ _ _ _ _ _ _ _ c s _ g2 g4
        exact ⟨h2, ⟨i, hd, Or.inr (Or.inr (Or.inr (Or.inr (Or.inr (Or.inr (Or.inr (Or.inr (Or.inr (Or.inl ⟨_, g1, k4⟩)))))))))⟩, k5, k6.trans g3⟩
      cases i with
      | ireturn =>
        obtain ⟨v, t1, rfl, h1⟩ := y_i_v hr
        obtain ⟨h2, h3⟩ := x_ck_v h1
        cases ht : xrt X mi with
        | none => rw [ht] at h3; cases h3
        | some ty =>
          rw [ht, Option.bind_some, fI_eq] at h3
          obtain ⟨h4, h5⟩ := x_ck_v h3
          cases h5
          exact ⟨h, fin (Or.inl ⟨v, rfl, by rw [List.isEmpty_iff.mp h2], ⟨ty, ht, by simpa using h4⟩, rfl⟩), R, rfl⟩
      | lreturn =>
        obtain ⟨v, t1, rfl, h1⟩ := y_l_v hr
        obtain ⟨h2, h3⟩ := x_ck_v h1
        rw [Bool.and_eq_true] at h2
        rw [fL_eq] at h3
        cases h3
        exact ⟨h, fin (Or.inr (Or.inl ⟨v, rfl, by rw [List.isEmpty_iff.mp h2.1], by simpa using h2.2, rfl⟩)), R, rfl⟩
      | areturn =>
        obtain ⟨a, t1, rfl, h1⟩ := y_r_v hr
        obtain ⟨h2, h3⟩ := x_ck_v h1
        split at h3
        · next nn e1 => cases h3; exact ⟨h, fin (Or.inr (Or.inr (Or.inl ⟨a, _, rfl, by rw [List.isEmpty_iff.mp h2], e1, Or.inl ⟨_, rfl⟩, rfl⟩))), R, rfl⟩
        · next nn e1 => cases h3; exact ⟨h, fin (Or.inr (Or.inr (Or.inl ⟨a, _, rfl, by rw [List.isEmpty_iff.mp h2], e1, Or.inr ⟨_, rfl⟩, rfl⟩))), R, rfl⟩
        · cases h3
      | return_ =>
        obtain ⟨h2, h3⟩ := x_ck_v hr
        rw [Bool.and_eq_true] at h2
        cases h3
        exact ⟨h, fin (Or.inr (Or.inr (Or.inr (Or.inl ⟨rfl, List.isEmpty_iff.mp h2.1, by simpa using h2.2, rfl⟩)))), R, rfl⟩
      | invokevirtual idx =>
        have hr : (xinv X mi idx).bind (fun q => q.1.bind (fun mj => y_r (st.drop q.2) (fun b rest => t_o t b (fun ci _ => x_ck ((kd mj == 0) && (decide (xcn X ci = (Y mj).cls) && Nat.ble q.2 st.length)) (t_go X (run3 X Y kd n) fb lb mi pc lv rest t mj (.ref b :: (st.take q.2).reverse)))))) = some r := hr
        cases hv : xinv X mi idx with
        | none => rw [hv] at hr; cases hr
        | some q =>
          obtain ⟨q1, q2⟩ := q
          cases q1 with
          | none => rw [hv] at hr; cases hr
          | some mj =>
            rw [hv] at hr
            obtain ⟨b, rest, h1, h2⟩ := y_r_v hr
            obtain ⟨ci, vs, h3, h4⟩ := t_o_v R h2
            obtain ⟨h5, h6⟩ := x_ck_v h4
            simp only [Bool.and_eq_true] at h5
            obtain ⟨h', k1, k2, k3⟩ := go True h6
            exact ⟨h', fin (Or.inr (Or.inr (Or.inr (Or.inr (Or.inl ⟨idx, q2, mj, b, rest, ci, vs, rfl, hv, h1, Nat.le_of_ble_eq_true h5.2.2, h3, by simpa using h5.2.1, by simpa using h5.1, k1⟩))))), k2, k3⟩
      | invokestatic idx =>
        have hr : (xinv X mi idx).bind (fun q => match q.1 with
          | none => (x_math q.2 st).bind (fun w => x_ck (Nat.blt 0 fb && Nat.ble (x_sum w.2 + 13) lb) (run3 X Y kd n fb lb mi (pc + 3) lv (.int w.1 :: w.2) t))
          | some mj => x_ck ((kd mj == 1) && Nat.ble q.2 st.length) (t_go X (run3 X Y kd n) fb lb mi pc lv (st.drop q.2) t mj (st.take q.2).reverse)) = some r := hr
        cases hv : xinv X mi idx with
        | none => rw [hv] at hr; cases hr
        | some q =>
          obtain ⟨q1, q2⟩ := q
          cases q1 with
          | none =>
            rw [hv] at hr
            have hr : (x_math q2 st).bind (fun w => x_ck (Nat.blt 0 fb && Nat.ble (x_sum w.2 + 13) lb) (run3 X Y kd n fb lb mi (pc + 3) lv (.int w.1 :: w.2) t)) = some r := hr
            cases hm : x_math q2 st with
            | none => rw [hm] at hr; cases hr
            | some w =>
              rw [hm, Option.bind_some] at hr
              obtain ⟨h5, h6⟩ := x_ck_v hr
              rw [Bool.and_eq_true] at h5
              obtain ⟨h2, k4, k5, k6⟩ := ih _ _ _ _ _ _ _ _ c s _ R h6
              exact ⟨h2, fin (Or.inr (Or.inr (Or.inr (Or.inr (Or.inr (Or.inr (Or.inr (Or.inr (Or.inl ⟨idx, q2, w, rfl, hv, hm, Nat.le_of_ble_eq_true h5.1, Nat.le_of_ble_eq_true h5.2, k4⟩))))))))), k5, k6⟩
          | some mj =>
            rw [hv] at hr
            obtain ⟨h5, h6⟩ := x_ck_v hr
            simp only [Bool.and_eq_true] at h5
            obtain ⟨h', k1, k2, k3⟩ := go False h6
            exact ⟨h', fin (Or.inr (Or.inr (Or.inr (Or.inr (Or.inr (Or.inl ⟨idx, q2, mj, rfl, hv, Nat.le_of_ble_eq_true h5.2, by simpa using h5.1, k1⟩)))))), k2, k3⟩
      | invokespecial idx => cases hr
      | _ => exact dflt hr
