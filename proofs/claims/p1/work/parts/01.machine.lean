/-! A SMALL MACHINE of my own, to be run by the kernel: references are places in a list of cells; what it comes to is shown of the real machine once, instruction by instruction. This part: values, locals, the instructions that touch no cell. -/
abbrev xL : Type := List (Nat × Value)
/-- a value here, and there: as tells the address of each cell -/
def vr (as : List Nat) (v w : Value) : Prop := match v with
  | .ref i => ∃ a, w = .ref a ∧ as[i]? = some a
  | _ => w = v
def vrs (as : List Nat) : List Value → List Value → Prop
  | [], w => w = []
  | v :: l, w => ∃ x r, w = x :: r ∧ vr as v x ∧ vrs as l r
def lrs (as : List Nat) : xL → xL → Prop
  | [], w => w = []
  | v :: l, w => ∃ x r, w = (v.1, x) :: r ∧ vr as v.2 x ∧ lrs as l r
theorem vr_i {as : List Nat} {x : Int32} {w : Value} (h : vr as (.int x) w) : w = .int x := h
theorem vr_l {as : List Nat} {x : Int64} {w : Value} (h : vr as (.long x) w) : w = .long x := h
theorem vr_r {as : List Nat} {x : Nat} {w : Value} (h : vr as (.ref x) w) : ∃ a, w = .ref a ∧ as[x]? = some a := h
theorem vr_cat {as : List Nat} {v w : Value} (h : vr as v w) : w.category = v.category := by
  cases v <;> first | (obtain ⟨a, rfl, -⟩ := vr_r h; rfl) | (have h : w = _ := h; rw [h])
theorem vr_more {as : List Nat} {v w : Value} (q : Nat) (h : vr as v w) : vr (as ++ [q]) v w := by
  cases v <;> first | (obtain ⟨a, h1, h2⟩ := vr_r h; exact ⟨a, h1, by rw [List.getElem?_append_left (List.getElem?_eq_some_iff.mp h2).1]; exact h2⟩) | exact h
theorem vrs_i {as : List Nat} {x : Int32} {r w : List Value} (h : vrs as (.int x :: r) w) : ∃ t, w = .int x :: t ∧ vrs as r t := by
  obtain ⟨y, t, h1, h2, h3⟩ := h
  exact ⟨t, by rw [h1, vr_i h2], h3⟩
theorem vrs_l {as : List Nat} {x : Int64} {r w : List Value} (h : vrs as (.long x :: r) w) : ∃ t, w = .long x :: t ∧ vrs as r t := by
  obtain ⟨y, t, h1, h2, h3⟩ := h
  exact ⟨t, by rw [h1, vr_l h2], h3⟩
theorem vrs_r {as : List Nat} {x : Nat} {r w : List Value} (h : vrs as (.ref x :: r) w) : ∃ a t, w = .ref a :: t ∧ as[x]? = some a ∧ vrs as r t := by
  obtain ⟨y, t, h1, h2, h3⟩ := h
  obtain ⟨a, h4, h5⟩ := vr_r h2
  exact ⟨a, t, by rw [h1, h4], h5, h3⟩
theorem vrs_v {as : List Nat} {v : Value} {r w : List Value} (h : vrs as (v :: r) w) : ∃ y t, w = y :: t ∧ vr as v y ∧ vrs as r t := h
theorem vrs_ci {as : List Nat} {x : Int32} {r w : List Value} (h : vrs as r w) : vrs as (.int x :: r) (.int x :: w) := ⟨_, _, rfl, rfl, h⟩
theorem vrs_cl {as : List Nat} {x : Int64} {r w : List Value} (h : vrs as r w) : vrs as (.long x :: r) (.long x :: w) := ⟨_, _, rfl, rfl, h⟩
theorem vrs_cr {as : List Nat} {x a : Nat} {r w : List Value} (h : as[x]? = some a) (h2 : vrs as r w) : vrs as (.ref x :: r) (.ref a :: w) := ⟨_, _, rfl, ⟨_, rfl, h⟩, h2⟩
theorem vrs_cv {as : List Nat} {v y : Value} {r w : List Value} (h : vr as v y) (h2 : vrs as r w) : vrs as (v :: r) (y :: w) := ⟨_, _, rfl, h, h2⟩
theorem vrs_more {as : List Nat} (q : Nat) : ∀ {l w : List Value}, vrs as l w → vrs (as ++ [q]) l w
  | [], _, h => h
  | _ :: _, _, h => by
    obtain ⟨x, r, h1, h2, h3⟩ := h
    exact ⟨x, r, h1, vr_more q h2, vrs_more q h3⟩
theorem lrs_more {as : List Nat} (q : Nat) : ∀ {l w : xL}, lrs as l w → lrs (as ++ [q]) l w
  | [], _, h => h
  | _ :: _, _, h => by
    obtain ⟨x, r, h1, h2, h3⟩ := h
    exact ⟨x, r, h1, vr_more q h2, lrs_more q h3⟩
theorem vrs_len {as : List Nat} : ∀ {l w : List Value}, vrs as l w → w.length = l.length
  | [], _, h => by have h : _ = _ := h; rw [h]
  | _ :: _, _, h => by
    obtain ⟨x, r, h1, h2, h3⟩ := h
    rw [h1, List.length_cons, List.length_cons, vrs_len h3]
theorem vrs_at {as : List Nat} : ∀ {l w : List Value}, vrs as l w → ∀ {k : Nat} {v : Value}, l[k]? = some v → ∃ y, w[k]? = some y ∧ vr as v y
  | [], _, _, _, _, hk => by simp at hk
  | _ :: _, _, h, k, v, hk => by
    obtain ⟨x, r, h1, h2, h3⟩ := h
    subst h1
    cases k with
    | zero => simp at hk; subst hk; exact ⟨x, by simp, h2⟩
    | succ k => simp at hk; obtain ⟨y, h4, h5⟩ := vrs_at h3 hk; exact ⟨y, by simpa using h4, h5⟩
theorem vrs_set {as : List Nat} : ∀ {l w : List Value}, vrs as l w → ∀ (k : Nat) {v y : Value}, vr as v y → vrs as (l.set k v) (w.set k y)
  | [], _, h, _, _, _, _ => by have h : _ = _ := h; rw [h]; rfl
  | _ :: _, _, h, k, v, y, hy => by
    obtain ⟨x, r, h1, h2, h3⟩ := h
    subst h1
    cases k with
    | zero => exact ⟨y, r, rfl, hy, h3⟩
    | succ k => exact ⟨x, r.set k y, rfl, h2, vrs_set h3 k hy⟩
/-- a number, laid open -/
noncomputable def fN {β : Type} (n : Nat) (k : Nat → β) : β := Nat.rec (motive := fun _ => β) (k 0) (fun m _ => k (m + 1)) n
theorem fN_eq {β : Type} (n : Nat) (k : Nat → β) : fN n k = k n := by cases n <;> rfl
/-- locals -/
def x_g : xL → Nat → Option Value
  | [], _ => none
  | q :: l, i => bif Nat.beq q.1 i then some q.2 else x_g l i
theorem x_g_at {as : List Nat} : ∀ {l w : xL}, lrs as l w → ∀ {i : Nat} {v : Value}, x_g l i = some v → ∃ (k : Nat) (y : Value), w[k]? = some (i, y) ∧ vr as v y
  | [], _, _, _, _, hk => by cases hk
  | q :: l, _, h, i, v, hk => by
    obtain ⟨x, r, h1, h2, h3⟩ := h
    subst h1
    unfold x_g at hk
    by_cases e : q.1 = i
    · have e2 : Nat.beq q.1 i = true := by rw [e]; exact Nat.beq_refl i
      rw [e2] at hk
      cases hk
      exact ⟨0, x, by simp [e], h2⟩
    · have e2 : Nat.beq q.1 i = false := by
        cases hb : Nat.beq q.1 i
        · rfl
        · exact absurd (Nat.eq_of_beq_eq_true hb) e
      rw [e2] at hk
      obtain ⟨k, y, h4, h5⟩ := x_g_at h3 hk
      exact ⟨k + 1, y, by simpa using h4, h5⟩
abbrev x_f1 (i : Nat) : Nat × Value → Bool := fun q => !(q.1 == i) && !(q.1 + 1 == i && q.2.category == 2)
abbrev x_f2 (i : Nat) : Nat × Value → Bool := fun q => !(q.1 == i) && (!(q.1 == i + 1) && !(q.1 + 1 == i && q.2.category == 2))
theorem lrs_filter {as : List Nat} (F : Nat × Value → Bool) (hF : ∀ (k : Nat) (v y : Value), y.category = v.category → F (k, y) = F (k, v)) : ∀ {l w : xL}, lrs as l w → lrs as (l.filter F) (w.filter F)
  | [], _, h => by have h : _ = _ := h; rw [h]; rfl
  | q :: l, _, h => by
    obtain ⟨x, r, h1, h2, h3⟩ := h
    subst h1
    have e := hF q.1 q.2 x (vr_cat h2)
    have ih := lrs_filter F hF h3
    rw [List.filter_cons, List.filter_cons, e]
    cases hc : F (q.1, q.2)
    · have hc' : F q = false := hc
      simp [hc']
      exact ih
    · have hc' : F q = true := hc
      simp [hc']
      exact ⟨x, _, rfl, h2, ih⟩
theorem x_f1_c (i : Nat) : ∀ (k : Nat) (v y : Value), y.category = v.category → x_f1 i (k, y) = x_f1 i (k, v) := fun k v y h => by simp [x_f1, h]
theorem x_f2_c (i : Nat) : ∀ (k : Nat) (v y : Value), y.category = v.category → x_f2 i (k, y) = x_f2 i (k, v) := fun k v y h => by simp [x_f2, h]
theorem lrs_c {as : List Nat} {i : Nat} {v y : Value} {l w : xL} (h : vr as v y) (h2 : lrs as l w) : lrs as ((i, v) :: l) ((i, y) :: w) := ⟨_, _, rfl, h, h2⟩
def x_tg (pc : Nat) (off : Int) : Option Nat := if 0 ≤ (pc : Int) + off then some ((pc : Int) + off).toNat else none
theorem x_tg_ok {pc : Nat} {off : Int} {t : Nat} (h : x_tg pc off = some t) : (pc : Int) + off = (t : Int) := by
  unfold x_tg at h
  split at h
  · cases h; omega
  · cases h
abbrev xS : Type := Nat × xL × List Value
/-- a step that leaves the cells alone -/
def x_st (nL pc n : Nat) (lv : xL) (i : Nat) (v : Value) (r : List Value) : Option xS := bif Nat.blt i nL then some (pc + n, (i, v) :: lv.filter (x_f1 i), r) else none
def x_st2 (nL pc n : Nat) (lv : xL) (i : Nat) (v : Value) (r : List Value) : Option xS := bif Nat.blt (i + 1) nL then some (pc + n, (i, v) :: lv.filter (x_f2 i), r) else none
def x_br (pc : Nat) (off : Int) (lv : xL) (r : List Value) (b : Bool) : Option xS := (x_tg pc off).map (fun t => (bif b then t else pc + 3, lv, r))
def x_c0 (c : ClassFile.Cond) (x : Int32) : Bool := match c with
  | .eq => decide (x = 0)
  | .ne => decide (¬ x = 0)
  | .lt => decide (x < 0)
  | .ge => decide (0 ≤ x)
  | .gt => decide (0 < x)
  | .le => decide (x ≤ 0)
def x_c2 (c : ClassFile.Cond) (x y : Int32) : Bool := match c with
  | .eq => decide (x = y)
  | .ne => decide (¬ x = y)
  | .lt => decide (x < y)
  | .ge => decide (y ≤ x)
  | .gt => decide (y < x)
  | .le => decide (x ≤ y)
def x_1i (st : List Value) (f : Int32 → List Value → Option xS) : Option xS := match st with
  | .int x :: r => f x r
  | _ => none
def x_2i (st : List Value) (f : Int32 → Int32 → List Value → Option xS) : Option xS := match st with
  | .int y :: .int x :: r => f x y r
  | _ => none
def x_1l (st : List Value) (f : Int64 → List Value → Option xS) : Option xS := match st with
  | .long x :: r => f x r
  | _ => none
def x_2l (st : List Value) (f : Int64 → Int64 → List Value → Option xS) : Option xS := match st with
  | .long y :: .long x :: r => f x y r
  | _ => none
def x_li (st : List Value) (f : Int64 → Int32 → List Value → Option xS) : Option xS := match st with
  | .int y :: .long x :: r => f x y r
  | _ => none
def x_1r (st : List Value) (f : Nat → List Value → Option xS) : Option xS := match st with
  | .ref x :: r => f x r
  | _ => none
def x_1v (st : List Value) (f : Value → List Value → Option xS) : Option xS := match st with
  | v :: r => f v r
  | _ => none
def x_2v (st : List Value) (f : Value → Value → List Value → Option xS) : Option xS := match st with
  | v :: w :: r => f v w r
  | _ => none
theorem x_1i_v {st : List Value} {f : Int32 → List Value → Option xS} {o : xS} (h : x_1i st f = some o) : ∃ x r, st = .int x :: r ∧ f x r = some o := by
  unfold x_1i at h
  split at h
  · exact ⟨_, _, rfl, h⟩
  · cases h
theorem x_2i_v {st : List Value} {f : Int32 → Int32 → List Value → Option xS} {o : xS} (h : x_2i st f = some o) : ∃ x y r, st = .int y :: .int x :: r ∧ f x y r = some o := by
  unfold x_2i at h
  split at h
  · exact ⟨_, _, _, rfl, h⟩
  · cases h
theorem x_1l_v {st : List Value} {f : Int64 → List Value → Option xS} {o : xS} (h : x_1l st f = some o) : ∃ x r, st = .long x :: r ∧ f x r = some o := by
  unfold x_1l at h
  split at h
  · exact ⟨_, _, rfl, h⟩
  · cases h
theorem x_2l_v {st : List Value} {f : Int64 → Int64 → List Value → Option xS} {o : xS} (h : x_2l st f = some o) : ∃ x y r, st = .long y :: .long x :: r ∧ f x y r = some o := by
  unfold x_2l at h
  split at h
  · exact ⟨_, _, _, rfl, h⟩
  · cases h
theorem x_li_v {st : List Value} {f : Int64 → Int32 → List Value → Option xS} {o : xS} (h : x_li st f = some o) : ∃ x y r, st = .int y :: .long x :: r ∧ f x y r = some o := by
  unfold x_li at h
  split at h
  · exact ⟨_, _, _, rfl, h⟩
  · cases h
theorem x_1r_v {st : List Value} {f : Nat → List Value → Option xS} {o : xS} (h : x_1r st f = some o) : ∃ x r, st = .ref x :: r ∧ f x r = some o := by
  unfold x_1r at h
  split at h
  · exact ⟨_, _, rfl, h⟩
  · cases h
theorem x_1v_v {st : List Value} {f : Value → List Value → Option xS} {o : xS} (h : x_1v st f = some o) : ∃ x r, st = x :: r ∧ f x r = some o := by
  unfold x_1v at h
  split at h
  · exact ⟨_, _, rfl, h⟩
  · cases h
theorem x_2v_v {st : List Value} {f : Value → Value → List Value → Option xS} {o : xS} (h : x_2v st f = some o) : ∃ x y r, st = x :: y :: r ∧ f x y r = some o := by
  unfold x_2v at h
  split at h
  · exact ⟨_, _, _, rfl, h⟩
  · cases h
def x_len : Instr → Nat
  | .bipush _ => 2
  | .sipush _ => 3
  | .iload _ => 2
  | .lload _ => 2
  | .aload _ => 2
  | .istore _ => 2
  | .lstore _ => 2
  | .astore _ => 2
  | .iinc _ _ => 3
  | .ifCond _ _ => 3
  | .if_icmp _ _ => 3
  | .if_acmp _ _ => 3
  | .goto _ => 3
  | .getfield _ => 3
  | .putfield _ => 3
  | .getstatic _ => 3
  | .invokevirtual _ => 3
  | .invokespecial _ => 3
  | .invokestatic _ => 3
  | .new _ => 3
  | .anewarray _ => 3
  | .newarray _ => 2
  | .ldc _ => 2
  | .ldc2_w _ => 3
  | _ => 1
def x_op (nL : Nat) (i : Instr) (pc : Nat) (lv : xL) (st : List Value) : Option xS := match i with
  | .iconst k => some (pc + 1, lv, .int (Int32.ofInt k) :: st)
  | .bipush k => some (pc + 2, lv, .int (Int8.ofInt k).toInt32 :: st)
  | .sipush k => some (pc + 3, lv, .int (Int16.ofInt k).toInt32 :: st)
  | .lconst k => some (pc + 1, lv, .long (Int64.ofNat (k : Nat)) :: st)
  | .iload_n k => match x_g lv k with | some (.int x) => some (pc + 1, lv, .int x :: st) | _ => none
  | .iload k => match x_g lv k with | some (.int x) => some (pc + 2, lv, .int x :: st) | _ => none
  | .lload_n k => match x_g lv k with | some (.long x) => some (pc + 1, lv, .long x :: st) | _ => none
  | .lload k => match x_g lv k with | some (.long x) => some (pc + 2, lv, .long x :: st) | _ => none
  | .aload_n k => match x_g lv k with | some (.ref x) => some (pc + 1, lv, .ref x :: st) | _ => none
  | .aload k => match x_g lv k with | some (.ref x) => some (pc + 2, lv, .ref x :: st) | _ => none
  | .istore_n k => x_1i st (fun x r => x_st nL pc 1 lv k (.int x) r)
  | .istore k => x_1i st (fun x r => x_st nL pc 2 lv k (.int x) r)
  | .astore_n k => x_1r st (fun x r => x_st nL pc 1 lv k (.ref x) r)
  | .astore k => x_1r st (fun x r => x_st nL pc 2 lv k (.ref x) r)
  | .lstore_n k => x_1l st (fun x r => x_st2 nL pc 1 lv k (.long x) r)
  | .lstore k => x_1l st (fun x r => x_st2 nL pc 2 lv k (.long x) r)
  | .iinc k n => match x_g lv k with | some (.int x) => x_st nL pc 3 lv k (.int (x + Int32.ofInt n)) st | _ => none
  | .iadd => x_2i st (fun x y r => some (pc + 1, lv, .int (x + y) :: r))
  | .isub => x_2i st (fun x y r => some (pc + 1, lv, .int (x - y) :: r))
  | .imul => x_2i st (fun x y r => some (pc + 1, lv, .int (x * y) :: r))
  | .iand => x_2i st (fun x y r => some (pc + 1, lv, .int (x &&& y) :: r))
  | .ior => x_2i st (fun x y r => some (pc + 1, lv, .int (x ||| y) :: r))
  | .ishl => x_2i st (fun x y r => some (pc + 1, lv, .int (x <<< (y &&& 31)) :: r))
  | .ishr => x_2i st (fun x y r => some (pc + 1, lv, .int (x >>> (y &&& 31)) :: r))
  | .iushr => x_2i st (fun x y r => some (pc + 1, lv, .int (x.toUInt32 >>> (y.toUInt32 &&& Int32.toUInt32 31)).toInt32 :: r))
  | .idiv => x_2i st (fun x y r => if y = 0 then none else some (pc + 1, lv, .int (x / y) :: r))
  | .irem => x_2i st (fun x y r => if y = 0 then none else some (pc + 1, lv, .int (x - x / y * y) :: r))
  | .ineg => x_1i st (fun x r => some (pc + 1, lv, .int (-x) :: r))
  | .ladd => x_2l st (fun x y r => some (pc + 1, lv, .long (x + y) :: r))
  | .lsub => x_2l st (fun x y r => some (pc + 1, lv, .long (x - y) :: r))
  | .lmul => x_2l st (fun x y r => some (pc + 1, lv, .long (x * y) :: r))
  | .land => x_2l st (fun x y r => some (pc + 1, lv, .long (x &&& y) :: r))
  | .lor => x_2l st (fun x y r => some (pc + 1, lv, .long (x ||| y) :: r))
  | .ldiv => x_2l st (fun x y r => if y = 0 then none else some (pc + 1, lv, .long (x / y) :: r))
  | .lrem => x_2l st (fun x y r => if y = 0 then none else some (pc + 1, lv, .long (x - x / y * y) :: r))
  | .lneg => x_1l st (fun x r => some (pc + 1, lv, .long (-x) :: r))
  | .lshl => x_li st (fun x y r => some (pc + 1, lv, .long (x <<< (y.toInt64 &&& 63)) :: r))
  | .lshr => x_li st (fun x y r => some (pc + 1, lv, .long (x >>> (y.toInt64 &&& 63)) :: r))
  | .lushr => x_li st (fun x y r => some (pc + 1, lv, .long (x.toUInt64 >>> (y.toInt64.toUInt64 &&& Int64.toUInt64 63)).toInt64 :: r))
  | .lcmp => x_2l st (fun x y r => some (pc + 1, lv, .int (lg_cmp x y) :: r))
  | .i2l => x_1i st (fun x r => some (pc + 1, lv, .long x.toInt64 :: r))
  | .l2i => x_1l st (fun x r => some (pc + 1, lv, .int x.toInt32 :: r))
  | .i2c => x_1i st (fun x r => some (pc + 1, lv, .int (x.toUInt32 % 65536).toInt32 :: r))
  | .dup => x_1v st (fun v r => if v.category = 1 then some (pc + 1, lv, v :: v :: r) else none)
  | .pop => x_1v st (fun v r => if v.category = 1 then some (pc + 1, lv, r) else none)
  | .dup_x1 => x_2v st (fun v w r => if v.category = 1 ∧ w.category = 1 then some (pc + 1, lv, v :: w :: v :: r) else none)
  | .dup2 => x_2v st (fun v w r => if v.category = 1 ∧ w.category = 1 then some (pc + 1, lv, v :: w :: v :: w :: r) else none)
  | .ifCond c off => x_1i st (fun x r => x_br pc off lv r (x_c0 c x))
  | .if_icmp c off => x_2i st (fun x y r => x_br pc off lv r (x_c2 c x y))
  | .goto off => (x_tg pc off).map (fun t => (t, lv, st))
  | _ => none
section XOP
variable {p : Program} {l : Launch} {e : Env} {R : Room} {s : State} {m : MethodId} {args : Array Value} {below : List Frame} {meth : Method} {c : Code} {H : Heap} {locs : List Loc} {cells slots : Nat} {Q : State → Prop}
variable {cc : ByteArray} {pc nL : Nat} {ls : Array Slot} {as : List Nat} {lv clv : xL} {st cst : List Value} {o : xS}
theorem x_st_v {n i : Nat} {v : Value} {r : List Value} (h : x_st nL pc n lv i v r = some o) : i < nL ∧ o = (pc + n, (i, v) :: lv.filter (x_f1 i), r) := by
  unfold x_st at h
  cases hb : Nat.blt i nL
  · rw [hb] at h; cases h
  · rw [hb] at h; cases h; exact ⟨Nat.le_of_ble_eq_true hb, rfl⟩
theorem x_st2_v {n i : Nat} {v : Value} {r : List Value} (h : x_st2 nL pc n lv i v r = some o) : i + 1 < nL ∧ o = (pc + n, (i, v) :: lv.filter (x_f2 i), r) := by
  unfold x_st2 at h
  cases hb : Nat.blt (i + 1) nL
  · rw [hb] at h; cases h
  · rw [hb] at h; cases h; exact ⟨Nat.le_of_ble_eq_true hb, rfl⟩
theorem x_br_v {off : Int} {r : List Value} {b : Bool} (h : x_br pc off lv r b = some o) : ∃ t : Nat, (pc : Int) + off = (t : Int) ∧ o = (bif b then t else pc + 3, lv, r) := by
  unfold x_br at h
  cases ht : x_tg pc off with
  | none => rw [ht] at h; cases h
  | some t => rw [ht] at h; cases h; exact ⟨t, x_tg_ok ht, rfl⟩
end XOP
