/-! a program for the small machine, and its steps that touch cells -/
abbrev xQ : Type := xS × xH × Nat × Nat
/-- per method: instructions; fields by pool number; may a field be put; classes; element classes; callees (none: Object's constructor); numbers. Per class: fresh fields; types; how many. Per method: locals, answer, is it static -/
abbrev xProg : Type := (Nat → Nat → Option Instr) × (Nat → Nat → Option (Nat × Nat)) × (Nat → Nat → Bool) × (Nat → Nat → Option Nat) × (Nat → Nat → Option String) × (Nat → Nat → Option (Option Nat × Nat)) × (Nat → Nat → Option Int32) × (Nat → Nat → Option Int64) × (Nat → List Value) × (Nat → Nat → FieldType) × (Nat → Nat) × (Nat → Nat) × (Nat → Option FieldType) × (Nat → String)
def xdec (X : xProg) : Nat → Nat → Option Instr := X.1
def xfld (X : xProg) : Nat → Nat → Option (Nat × Nat) := X.2.1
def xput (X : xProg) : Nat → Nat → Bool := X.2.2.1
def xcls (X : xProg) : Nat → Nat → Option Nat := X.2.2.2.1
def xarr (X : xProg) : Nat → Nat → Option String := X.2.2.2.2.1
def xinv (X : xProg) : Nat → Nat → Option (Option Nat × Nat) := X.2.2.2.2.2.1
def xki (X : xProg) : Nat → Nat → Option Int32 := X.2.2.2.2.2.2.1
def xkl (X : xProg) : Nat → Nat → Option Int64 := X.2.2.2.2.2.2.2.1
def xdf (X : xProg) : Nat → List Value := X.2.2.2.2.2.2.2.2.1
def xft (X : xProg) : Nat → Nat → FieldType := X.2.2.2.2.2.2.2.2.2.1
def xnf (X : xProg) : Nat → Nat := X.2.2.2.2.2.2.2.2.2.2.1
def xml (X : xProg) : Nat → Nat := X.2.2.2.2.2.2.2.2.2.2.2.1
def xrt (X : xProg) : Nat → Option FieldType := X.2.2.2.2.2.2.2.2.2.2.2.2.1
def xcn (X : xProg) : Nat → String := X.2.2.2.2.2.2.2.2.2.2.2.2.2
def y_r {α : Type} (st : List Value) (f : Nat → List Value → Option α) : Option α := match st with
  | .ref a :: r => f a r
  | _ => none
def y_i {α : Type} (st : List Value) (f : Int32 → List Value → Option α) : Option α := match st with
  | .int a :: r => f a r
  | _ => none
def y_l {α : Type} (st : List Value) (f : Int64 → List Value → Option α) : Option α := match st with
  | .long a :: r => f a r
  | _ => none
def y_v {α : Type} (st : List Value) (f : Value → List Value → Option α) : Option α := match st with
  | a :: r => f a r
  | _ => none
theorem y_r_v {α : Type} {st : List Value} {f : Nat → List Value → Option α} {o : α} (h : y_r st f = some o) : ∃ x r, st = .ref x :: r ∧ f x r = some o := by
  unfold y_r at h
  split at h
  · exact ⟨_, _, rfl, h⟩
  · cases h
theorem y_i_v {α : Type} {st : List Value} {f : Int32 → List Value → Option α} {o : α} (h : y_i st f = some o) : ∃ x r, st = .int x :: r ∧ f x r = some o := by
  unfold y_i at h
  split at h
  · exact ⟨_, _, rfl, h⟩
  · cases h
theorem y_l_v {α : Type} {st : List Value} {f : Int64 → List Value → Option α} {o : α} (h : y_l st f = some o) : ∃ x r, st = .long x :: r ∧ f x r = some o := by
  unfold y_l at h
  split at h
  · exact ⟨_, _, rfl, h⟩
  · cases h
theorem y_v_v {α : Type} {st : List Value} {f : Value → List Value → Option α} {o : α} (h : y_v st f = some o) : ∃ x r, st = x :: r ∧ f x r = some o := by
  unfold y_v at h
  split at h
  · exact ⟨_, _, rfl, h⟩
  · cases h
/-- cells by kind -/
def h_o {α : Type} (h : xH) (a : Nat) (f : Nat → List Value → Option α) : Option α := match h[a]? with
  | some (.inl q) => f q.1 q.2
  | _ => none
def h_i {α : Type} (ty : FieldType) (h : xH) (a : Nat) (f : List Int32 → Option α) : Option α := match h[a]? with
  | some (.inr (t, .inl x)) => if t = ty then f x else none
  | _ => none
def h_l {α : Type} (h : xH) (a : Nat) (f : List Int64 → Option α) : Option α := match h[a]? with
  | some (.inr (t, .inr (.inl x))) => if t = .long then f x else none
  | _ => none
def h_q {α : Type} (h : xH) (a : Nat) (f : String → List (Option Nat) → Option α) : Option α := match h[a]? with
  | some (.inr (.object C, .inr (.inr x))) => f C x
  | _ => none
theorem h_o_v {α : Type} {h : xH} {a : Nat} {f : Nat → List Value → Option α} {o : α} (hh : h_o h a f = some o) : ∃ ci vs, h[a]? = some (.inl (ci, vs)) ∧ f ci vs = some o := by
  unfold h_o at hh
  split at hh
  · next q e => exact ⟨q.1, q.2, e, hh⟩
  · cases hh
theorem h_i_v {α : Type} {ty : FieldType} {h : xH} {a : Nat} {f : List Int32 → Option α} {o : α} (hh : h_i ty h a f = some o) : ∃ x, h[a]? = some (.inr (ty, .inl x)) ∧ f x = some o := by
  unfold h_i at hh
  split at hh
  · next t x e =>
    split at hh
    · next e2 => subst e2; exact ⟨x, e, hh⟩
    · cases hh
  · cases hh
theorem h_l_v {α : Type} {h : xH} {a : Nat} {f : List Int64 → Option α} {o : α} (hh : h_l h a f = some o) : ∃ x, h[a]? = some (.inr (.long, .inr (.inl x))) ∧ f x = some o := by
  unfold h_l at hh
  split at hh
  · next t x e =>
    split at hh
    · next e2 => subst e2; exact ⟨x, e, hh⟩
    · cases hh
  · cases hh
theorem h_q_v {α : Type} {h : xH} {a : Nat} {f : String → List (Option Nat) → Option α} {o : α} (hh : h_q h a f = some o) : ∃ C x, h[a]? = some (.inr (.object C, .inr (.inr x))) ∧ f C x = some o := by
  unfold h_q at hh
  split at hh
  · next C x e => exact ⟨C, x, e, hh⟩
  · cases hh
def x_in (j : Int32) (n : Nat) : Bool := !(decide (j < 0)) && Nat.blt j.toNatClampNeg n
theorem x_in_ok {j : Int32} {n : Nat} (h : x_in j n = true) : vp_in j n := by
  unfold x_in at h
  rw [Bool.and_eq_true] at h
  obtain ⟨h1, h2⟩ := h
  have h1 : ¬ j < 0 := by simpa using h1
  have h2 : j.toNatClampNeg < n := Nat.le_of_ble_eq_true h2
  rintro (q | q)
  · exact h1 q
  · omega
def x_ck {α : Type} (b : Bool) (o : Option α) : Option α := bif b then o else none
theorem x_ck_v {α : Type} {b : Bool} {o : Option α} {v : α} (h : x_ck b o = some v) : b = true ∧ o = some v := by
  cases b
  · cases h
  · exact ⟨rfl, h⟩
noncomputable def x_hs (X : xProg) (mi : Nat) (i : Instr) (pc : Nat) (lv : xL) (st : List Value) (h : xH) : Option xQ := match i with
  | .getfield idx => y_r st (fun a r => h_o h a (fun cj vs => (xfld X mi idx).bind (fun q => x_ck (Nat.beq q.1 cj && Nat.blt q.2 (xnf X q.1)) ((vs[q.2]?).map (fun v => ((pc + 3, lv, v :: r), h, 0, 0))))))
  | .putfield idx => y_v st (fun v st => y_r st (fun a r => h_o h a (fun cj vs => (xfld X mi idx).bind (fun q => x_ck (Nat.beq q.1 cj && (Nat.blt q.2 (xnf X q.1) && (Nat.blt q.2 vs.length && (decide (narrow (xft X q.1 q.2) v = v) && (fits (xft X q.1 q.2) v && xput X mi idx))))) (some ((pc + 3, lv, r), h.set a (.inl (cj, vs.set q.2 v)), 0, 0))))))
  | .iaload => y_i st (fun j st => y_r st (fun a r => h_i .int h a (fun x => x_ck (x_in j x.length) (some ((pc + 1, lv, .int (x.getD j.toNatClampNeg 0) :: r), h, 0, 0)))))
  | .caload => y_i st (fun j st => y_r st (fun a r => h_i .char h a (fun x => x_ck (x_in j x.length) (some ((pc + 1, lv, .int (x.getD j.toNatClampNeg 0) :: r), h, 0, 0)))))
  | .baload => y_i st (fun j st => y_r st (fun a r => h_i .boolean h a (fun x => x_ck (x_in j x.length) (some ((pc + 1, lv, .int (x.getD j.toNatClampNeg 0) :: r), h, 0, 0)))))
  | .laload => y_i st (fun j st => y_r st (fun a r => h_l h a (fun x => x_ck (x_in j x.length) (some ((pc + 1, lv, .long (x.getD j.toNatClampNeg 0) :: r), h, 0, 0)))))
  | .aaload => y_i st (fun j st => y_r st (fun a r => h_q h a (fun _ x => x_ck (x_in j x.length) (some ((pc + 1, lv, va_rf (x.getD j.toNatClampNeg none) :: r), h, 0, 0)))))
  | .iastore => y_i st (fun y st => y_i st (fun j st => y_r st (fun a r => h_i .int h a (fun x => x_ck (x_in j x.length) (some ((pc + 1, lv, r), h.set a (.inr (.int, .inl (x.set j.toNatClampNeg y))), 0, 0))))))
  | .castore => y_i st (fun y st => y_i st (fun j st => y_r st (fun a r => h_i .char h a (fun x => x_ck (x_in j x.length) (some ((pc + 1, lv, r), h.set a (.inr (.char, .inl (x.set j.toNatClampNeg (vp_nar .char y)))), 0, 0))))))
  | .bastore => y_i st (fun y st => y_i st (fun j st => y_r st (fun a r => h_i .boolean h a (fun x => x_ck (x_in j x.length) (some ((pc + 1, lv, r), h.set a (.inr (.boolean, .inl (x.set j.toNatClampNeg (vp_nar .boolean y)))), 0, 0))))))
  | .lastore => y_l st (fun y st => y_i st (fun j st => y_r st (fun a r => h_l h a (fun x => x_ck (x_in j x.length) (some ((pc + 1, lv, r), h.set a (.inr (.long, .inr (.inl (x.set j.toNatClampNeg y)))), 0, 0))))))
  | .aastore => y_r st (fun k st => y_i st (fun j st => y_r st (fun a r => h_q h a (fun C x => h_o h k (fun ci _ => x_ck (x_in j x.length && decide (xcn X ci = C)) (some ((pc + 1, lv, r), h.set a (.inr (.object C, .inr (.inr (x.set j.toNatClampNeg (some k))))), 0, 0)))))))
  | .if_acmp q off => y_r st (fun j st => y_r st (fun i r => (x_tg pc off).bind (fun t => some ((bif (match q with | .eq => Nat.beq i j | .ne => !(Nat.beq i j)) then t else pc + 3, lv, r), h, 0, 0))))
  | .arraylength => y_r st (fun a r => match h[a]? with
    | some (.inr (_, .inl x)) => some ((pc + 1, lv, .int (Int32.ofNat x.length) :: r), h, 0, 0)
    | some (.inr (_, .inr (.inl x))) => some ((pc + 1, lv, .int (Int32.ofNat x.length) :: r), h, 0, 0)
    | some (.inr (_, .inr (.inr x))) => some ((pc + 1, lv, .int (Int32.ofNat x.length) :: r), h, 0, 0)
    | _ => none)
  | .new idx => (xcls X mi idx).bind (fun ci => fN h.length (fun n => some ((pc + 3, lv, .ref n :: st), h ++ [.inl (ci, xdf X ci)], 1, xnf X ci)))
  | .newarray at_ => y_i st (fun n r => x_ck (!(decide (n < 0)) && Nat.ble n.toNatClampNeg 67108864) (match at_ with
    | .int => fN h.length (fun q => some ((pc + 2, lv, .ref q :: r), h ++ [.inr (.int, .inl (List.replicate n.toNatClampNeg 0))], 1, n.toNatClampNeg))
    | .char => fN h.length (fun q => some ((pc + 2, lv, .ref q :: r), h ++ [.inr (.char, .inl (List.replicate n.toNatClampNeg 0))], 1, n.toNatClampNeg))
    | .boolean => fN h.length (fun q => some ((pc + 2, lv, .ref q :: r), h ++ [.inr (.boolean, .inl (List.replicate n.toNatClampNeg 0))], 1, n.toNatClampNeg))
    | .long => fN h.length (fun q => some ((pc + 2, lv, .ref q :: r), h ++ [.inr (.long, .inr (.inl (List.replicate n.toNatClampNeg 0)))], 1, n.toNatClampNeg))
    | _ => none))
  | .anewarray idx => y_i st (fun n r => x_ck (!(decide (n < 0)) && Nat.ble n.toNatClampNeg 67108864) ((xarr X mi idx).bind (fun C => fN h.length (fun q => some ((pc + 3, lv, .ref q :: r), h ++ [.inr (.object C, .inr (.inr (List.replicate n.toNatClampNeg none)))], 1, n.toNatClampNeg)))))
  | .ldc idx => (xki X mi idx).bind (fun v => some ((pc + 2, lv, .int v :: st), h, 0, 0))
  | .ldc2_w idx => (xkl X mi idx).bind (fun v => some ((pc + 3, lv, .long v :: st), h, 0, 0))
  | i => (x_op (xml X mi) i pc lv st).map (fun o => (o, h, 0, 0))
