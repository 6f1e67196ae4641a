/-! the small machine's run: calls and answers; every run that comes to an end is one of the real machine -/
abbrev xR : Type := Option Value × xH × Nat × Nat
def x_sum (st : List Value) : Nat := (st.map fun v => v.category).sum
/-- the list again, its spine laid open -/
noncomputable def frc {β : Type} (h : xH) : (xH → β) → β := List.rec (motive := fun _ => (xH → β) → β) (fun k => k []) (fun x _ ih k => ih (fun t => k (x :: t))) h
theorem frc_eq {β : Type} (h : xH) (k : xH → β) : frc h k = k h := by
  induction h generalizing k with
  | nil => rfl
  | cons x t ih => exact ih (fun t => k (x :: t))
def x_wr : Instr → Bool
  | .putfield _ => true
  | .iastore => true
  | .castore => true
  | .bastore => true
  | .lastore => true
  | .aastore => true
  | .new _ => true
  | .newarray _ => true
  | .anewarray _ => true
  | _ => false
abbrev xK : Type := Nat → Nat → Nat → Nat → xL → List Value → xH → Nat → Nat → Option xR
noncomputable def rvo (f : Nat → Option Nat) (v : Option Value) : Option (Option Value) := match v with
  | none => some none
  | some x => (rv f x).map some
noncomputable def x_go (X : xProg) (ih : xK) (fb lb mi pc : Nat) (lv : xL) (rest : List Value) (h : xH) (c s : Nat) (mj : Nat) (avs : List Value) : Option xR :=
  x_ck (Nat.ble (x_sum rest) 8 && (Nat.blt 0 fb && Nat.ble (19 + xml X mj) lb)) (match cut h avs with
    | some q => x_ck (Nat.ble (lg_sl q.2.2).length (xml X mj)) ((ih (fb - 1) (lb - (19 + xml X mj)) mj 0 (lv_args 0 q.2.2) [] q.2.1 0 0).bind (fun r1 => x_ck (Nat.ble q.1.length r1.2.1.length) ((rcs (bk q.1 h.length) r1.2.1).bind (fun cs => (rvo (bk q.1 h.length) r1.1).bind (fun v => frc (mg h q.1 cs) (fun h' => ih fb lb mi (pc + 3) lv (v.toList ++ rest) h' (c + r1.2.2.1) (s + r1.2.2.2)))))))
    | none => x_ck (Nat.ble (lg_sl avs).length (xml X mj)) ((ih (fb - 1) (lb - (19 + xml X mj)) mj 0 (lv_args 0 avs) [] h 0 0).bind (fun r1 => ih fb lb mi (pc + 3) lv (r1.1.toList ++ rest) r1.2.1 (c + r1.2.2.1) (s + r1.2.2.2))))
/-- Math.max, min, abs of ints: 10, 11, 12 -/
def x_math (n : Nat) (st : List Value) : Option (Int32 × List Value) := bif Nat.beq n 12 then (match st with
    | .int x :: r => some (if 0 ≤ x then x else 0 - x, r)
    | _ => none) else match st with
    | .int y :: .int x :: r => bif Nat.beq n 10 then some (if x < y then y else x, r) else bif Nat.beq n 11 then some (if y < x then y else x, r) else none
    | _ => none
theorem x_math_v {n : Nat} {st : List Value} {w : Int32 × List Value} (h : x_math n st = some w) : (∃ x, n = 12 ∧ st = .int x :: w.2 ∧ w.1 = if 0 ≤ x then x else 0 - x) ∨ (∃ x y, n = 10 ∧ st = .int y :: .int x :: w.2 ∧ w.1 = if x < y then y else x) ∨ (∃ x y, n = 11 ∧ st = .int y :: .int x :: w.2 ∧ w.1 = if y < x then y else x) := by
  unfold x_math at h
  cases hb : Nat.beq n 12
  · rw [hb, cond_false] at h
    split at h
    · next y x r =>
      cases hb1 : Nat.beq n 10
      · rw [hb1, cond_false] at h
        cases hb2 : Nat.beq n 11
        · rw [hb2] at h; cases h
        · rw [hb2] at h; cases h; exact Or.inr (Or.inr ⟨x, y, Nat.eq_of_beq_eq_true hb2, rfl, rfl⟩)
      · rw [hb1] at h; cases h; exact Or.inr (Or.inl ⟨x, y, Nat.eq_of_beq_eq_true hb1, rfl, rfl⟩)
    · cases h
  · rw [hb, cond_true] at h
    split at h
    · next x r => cases h; exact Or.inl ⟨x, Nat.eq_of_beq_eq_true hb, rfl, rfl⟩
    · cases h
noncomputable def x_run (X : xProg) (Y : Nat → MethodName) (kd : Nat → Nat) (ih : xK) (fb lb mi pc : Nat) (lv : xL) (st : List Value) (h : xH) (c s : Nat) (i : Instr) : Option xR := match i with
  | .ireturn => y_i st (fun v r => x_ck r.isEmpty ((xrt X mi).bind (fun ty => x_ck (decide (narrow ty (.int v) = .int v)) (some (some (.int v), h, c, s)))))
  | .lreturn => y_l st (fun v r => x_ck (r.isEmpty && decide (xrt X mi = some .long)) (some (some (.long v), h, c, s)))
  | .areturn => y_r st (fun a r => x_ck r.isEmpty (match xrt X mi with
    | some (.object _) => some (some (.ref a), h, c, s)
    | some (.array _) => some (some (.ref a), h, c, s)
    | _ => none))
  | .return_ => x_ck (st.isEmpty && decide (xrt X mi = none)) (some (none, h, c, s))
  | .invokevirtual idx => (xinv X mi idx).bind (fun q => q.1.bind (fun mj => y_r (st.drop q.2) (fun b rest => h_o h b (fun ci _ => x_ck ((kd mj == 0) && (decide (xcn X ci = (Y mj).cls) && Nat.ble q.2 st.length)) (x_go X ih fb lb mi pc lv rest h c s mj (.ref b :: (st.take q.2).reverse))))))
  | .invokestatic idx => (xinv X mi idx).bind (fun q => match q.1 with
    | none => (x_math q.2 st).bind (fun w => x_ck (Nat.blt 0 fb && Nat.ble (x_sum w.2 + 13) lb) (ih fb lb mi (pc + 3) lv (.int w.1 :: w.2) h c s))
    | some mj => x_ck ((kd mj == 1) && Nat.ble q.2 st.length) (x_go X ih fb lb mi pc lv (st.drop q.2) h c s mj (st.take q.2).reverse))
  | .invokespecial idx => (xinv X mi idx).bind (fun q => match q.1 with
    | none => y_r st (fun _ rest => x_ck (Nat.beq q.2 0 && (Nat.blt 0 fb && Nat.ble (x_sum rest + 12) lb)) (ih fb lb mi (pc + 3) lv rest h c s))
    | some mj => y_r (st.drop q.2) (fun b rest => x_ck ((kd mj == 2) && Nat.ble q.2 st.length) (x_go X ih fb lb mi pc lv rest h c s mj (.ref b :: (st.take q.2).reverse))))
  | i => (x_hs X mi i pc lv st h).bind (fun o => bif x_wr i then frc o.2.1 (fun h' => ih fb lb mi o.1.1 o.1.2.1 o.1.2.2 h' (c + o.2.2.1) (s + o.2.2.2)) else ih fb lb mi o.1.1 o.1.2.1 o.1.2.2 o.2.1 (c + o.2.2.1) (s + o.2.2.2))
noncomputable def run (X : xProg) (Y : Nat → MethodName) (kd : Nat → Nat) (n : Nat) : xK := Nat.rec (motive := fun _ => xK) (fun _ _ _ _ _ _ _ _ _ => none) (fun _ ih fb lb mi pc lv st h c s => (xdec X mi pc).bind (fun i => x_run X Y kd ih fb lb mi pc lv st h c s i)) n
theorem run_0 (X : xProg) (Y : Nat → MethodName) (kd : Nat → Nat) (fb lb mi pc : Nat) (lv : xL) (st : List Value) (h : xH) (c s : Nat) : run X Y kd 0 fb lb mi pc lv st h c s = none := rfl
theorem run_s (X : xProg) (Y : Nat → MethodName) (kd : Nat → Nat) (n fb lb mi pc : Nat) (lv : xL) (st : List Value) (h : xH) (c s : Nat) : run X Y kd (n + 1) fb lb mi pc lv st h c s = (xdec X mi pc).bind (fun i => x_run X Y kd (run X Y kd n) fb lb mi pc lv st h c s i) := rfl
/-- the ways in which a step of the run goes on -/
theorem x_run_v {X : xProg} {Y : Nat → MethodName} {kd : Nat → Nat} {ih : xK} {fb lb mi pc : Nat} {lv : xL} {st : List Value} {h : xH} {c s : Nat} {i : Instr} {r : xR} (hr : x_run X Y kd ih fb lb mi pc lv st h c s i = some r) :
    (∃ v, i = .ireturn ∧ st = [.int v] ∧ (∃ ty, xrt X mi = some ty ∧ narrow ty (.int v) = .int v) ∧ r = (some (.int v), h, c, s)) ∨
    (∃ v, i = .lreturn ∧ st = [.long v] ∧ xrt X mi = some .long ∧ r = (some (.long v), h, c, s)) ∨
    (∃ a rt, i = .areturn ∧ st = [.ref a] ∧ xrt X mi = some rt ∧ ((∃ n, rt = .object n) ∨ ∃ t, rt = .array t) ∧ r = (some (.ref a), h, c, s)) ∨
    (i = .return_ ∧ st = [] ∧ xrt X mi = none ∧ r = (none, h, c, s)) ∨
    (∃ idx q mj b rest ci vs, i = .invokevirtual idx ∧ xinv X mi idx = some (some mj, q) ∧ st.drop q = .ref b :: rest ∧ q ≤ st.length ∧ h[b]? = some (.inl (ci, vs)) ∧ xcn X ci = (Y mj).cls ∧ kd mj = 0 ∧ x_go X ih fb lb mi pc lv rest h c s mj (.ref b :: (st.take q).reverse) = some r) ∨
    (∃ idx q mj, i = .invokestatic idx ∧ xinv X mi idx = some (some mj, q) ∧ q ≤ st.length ∧ kd mj = 1 ∧ x_go X ih fb lb mi pc lv (st.drop q) h c s mj (st.take q).reverse = some r) ∨
    (∃ idx q mj b rest, i = .invokespecial idx ∧ xinv X mi idx = some (some mj, q) ∧ st.drop q = .ref b :: rest ∧ q ≤ st.length ∧ kd mj = 2 ∧ x_go X ih fb lb mi pc lv rest h c s mj (.ref b :: (st.take q).reverse) = some r) ∨
    (∃ idx b rest, i = .invokespecial idx ∧ xinv X mi idx = some (none, 0) ∧ st = .ref b :: rest ∧ 1 ≤ fb ∧ x_sum rest + 12 ≤ lb ∧ ih fb lb mi (pc + 3) lv rest h c s = some r) ∨
    (∃ idx q w, i = .invokestatic idx ∧ xinv X mi idx = some (none, q) ∧ x_math q st = some w ∧ 1 ≤ fb ∧ x_sum w.2 + 13 ≤ lb ∧ ih fb lb mi (pc + 3) lv (.int w.1 :: w.2) h c s = some r) ∨
    (∃ o, x_hs X mi i pc lv st h = some o ∧ ih fb lb mi o.1.1 o.1.2.1 o.1.2.2 o.2.1 (c + o.2.2.1) (s + o.2.2.2) = some r) := by
  have dflt : x_run X Y kd ih fb lb mi pc lv st h c s i = (x_hs X mi i pc lv st h).bind (fun o => bif x_wr i then frc o.2.1 (fun h' => ih fb lb mi o.1.1 o.1.2.1 o.1.2.2 h' (c + o.2.2.1) (s + o.2.2.2)) else ih fb lb mi o.1.1 o.1.2.1 o.1.2.2 o.2.1 (c + o.2.2.1) (s + o.2.2.2)) → ∃ o, x_hs X mi i pc lv st h = some o ∧ ih fb lb mi o.1.1 o.1.2.1 o.1.2.2 o.2.1 (c + o.2.2.1) (s + o.2.2.2) = some r := by
    intro e1
    rw [e1] at hr
    cases ho : x_hs X mi i pc lv st h with
    | none => rw [ho] at hr; cases hr
    | some o =>
      rw [ho] at hr
      refine ⟨o, rfl, ?_⟩
      rw [Option.bind_some] at hr
      cases hw : x_wr i
      · rw [hw] at hr; exact hr
      · rw [hw, cond_true, frc_eq] at hr; exact hr
  cases i with
  | ireturn =>
    obtain ⟨v, t, rfl, h1⟩ := y_i_v hr
    obtain ⟨h2, h3⟩ := x_ck_v h1
    cases ht : xrt X mi with
    | none => rw [ht] at h3; cases h3
    | some ty =>
      rw [ht] at h3
      obtain ⟨h4, h5⟩ := x_ck_v h3
      cases h5
      exact Or.inl ⟨v, rfl, by rw [List.isEmpty_iff.mp h2], ⟨ty, rfl, by simpa using h4⟩, rfl⟩
  | lreturn =>
    obtain ⟨v, t, rfl, h1⟩ := y_l_v hr
    obtain ⟨h2, h3⟩ := x_ck_v h1
    rw [Bool.and_eq_true] at h2
    cases h3
    exact Or.inr (Or.inl ⟨v, rfl, by rw [List.isEmpty_iff.mp h2.1], by simpa using h2.2, rfl⟩)
  | areturn =>
    obtain ⟨a, t, rfl, h1⟩ := y_r_v hr
    obtain ⟨h2, h3⟩ := x_ck_v h1
    split at h3
    · next n e1 => cases h3; exact Or.inr (Or.inr (Or.inl ⟨a, _, rfl, by rw [List.isEmpty_iff.mp h2], e1, Or.inl ⟨_, rfl⟩, rfl⟩))
    · next n e1 => cases h3; exact Or.inr (Or.inr (Or.inl ⟨a, _, rfl, by rw [List.isEmpty_iff.mp h2], e1, Or.inr ⟨_, rfl⟩, rfl⟩))
    · cases h3
  | return_ =>
    obtain ⟨h2, h3⟩ := x_ck_v hr
    rw [Bool.and_eq_true] at h2
    cases h3
    exact Or.inr (Or.inr (Or.inr (Or.inl ⟨rfl, List.isEmpty_iff.mp h2.1, by simpa using h2.2, rfl⟩)))
  | invokevirtual idx =>
    refine Or.inr (Or.inr (Or.inr (Or.inr (Or.inl ?_))))
    simp only [x_run] at hr
    cases hv : xinv X mi idx with
    | none => rw [hv] at hr; cases hr
    | some q =>
      obtain ⟨q1, q2⟩ := q
      cases q1 with
      | none => rw [hv] at hr; cases hr
      | some mj =>
        rw [hv] at hr
        obtain ⟨b, rest, h1, h2⟩ := y_r_v hr
        obtain ⟨ci, vs, h3, h4⟩ := h_o_v h2
        obtain ⟨h5, h6⟩ := x_ck_v h4
        simp only [Bool.and_eq_true] at h5
        exact ⟨idx, q2, mj, b, rest, ci, vs, rfl, hv, h1, Nat.le_of_ble_eq_true h5.2.2, h3, by simpa using h5.2.1, by simpa using h5.1, h6⟩
  | invokestatic idx =>
    simp only [x_run] at hr
    cases hv : xinv X mi idx with
    | none => rw [hv] at hr; cases hr
    | some q =>
      obtain ⟨q1, q2⟩ := q
      cases q1 with
      | none =>
        rw [hv] at hr
        refine Or.inr (Or.inr (Or.inr (Or.inr (Or.inr (Or.inr (Or.inr (Or.inr (Or.inl ?_))))))))
        have hr : (x_math q2 st).bind (fun w => x_ck (Nat.blt 0 fb && Nat.ble (x_sum w.2 + 13) lb) (ih fb lb mi (pc + 3) lv (.int w.1 :: w.2) h c s)) = some r := hr
        cases hm : x_math q2 st with
        | none => rw [hm] at hr; cases hr
        | some w =>
          rw [hm, Option.bind_some] at hr
          obtain ⟨h5, h6⟩ := x_ck_v hr
          rw [Bool.and_eq_true] at h5
          exact ⟨idx, q2, w, rfl, hv, hm, Nat.le_of_ble_eq_true h5.1, Nat.le_of_ble_eq_true h5.2, h6⟩
      | some mj =>
        rw [hv] at hr
        obtain ⟨h5, h6⟩ := x_ck_v hr
        simp only [Bool.and_eq_true] at h5
        exact Or.inr (Or.inr (Or.inr (Or.inr (Or.inr (Or.inl ⟨idx, q2, mj, rfl, hv, Nat.le_of_ble_eq_true h5.2, by simpa using h5.1, h6⟩)))))
  | invokespecial idx =>
    refine Or.inr (Or.inr (Or.inr (Or.inr (Or.inr (Or.inr ?_)))))
    simp only [x_run] at hr
    cases hv : xinv X mi idx with
    | none => rw [hv] at hr; cases hr
    | some q =>
      obtain ⟨q1, q2⟩ := q
      cases q1 with
      | none =>
        rw [hv] at hr
        obtain ⟨b, rest, h1, h2⟩ := y_r_v hr
        obtain ⟨h5, h6⟩ := x_ck_v h2
        simp only [Bool.and_eq_true] at h5
        have h7 : q2 = 0 := Nat.eq_of_beq_eq_true h5.1
        subst h7
        exact Or.inr (Or.inl ⟨idx, b, rest, rfl, hv, h1, Nat.le_of_ble_eq_true h5.2.1, Nat.le_of_ble_eq_true h5.2.2, h6⟩)
      | some mj =>
        rw [hv] at hr
        obtain ⟨b, rest, h1, h2⟩ := y_r_v hr
        obtain ⟨h5, h6⟩ := x_ck_v h2
        rw [Bool.and_eq_true] at h5
        exact Or.inl ⟨idx, q2, mj, b, rest, rfl, hv, h1, Nat.le_of_ble_eq_true h5.2, by simpa using h5.1, h6⟩
  | _ => exact Or.inr (Or.inr (Or.inr (Or.inr (Or.inr (Or.inr (Or.inr (Or.inr (Or.inr (dflt rfl)))))))))
theorem x_go_v {X : xProg} {ih : xK} {fb lb mi pc : Nat} {lv : xL} {rest : List Value} {h : xH} {c s mj : Nat} {avs : List Value} {r : xR} (hr : x_go X ih fb lb mi pc lv rest h c s mj avs = some r) :
    x_sum rest ≤ 8 ∧ 1 ≤ fb ∧ 19 + xml X mj ≤ lb ∧ (((lg_sl avs).length ≤ xml X mj ∧ ∃ r1, ih (fb - 1) (lb - (19 + xml X mj)) mj 0 (lv_args 0 avs) [] h 0 0 = some r1 ∧ ih fb lb mi (pc + 3) lv (r1.1.toList ++ rest) r1.2.1 (c + r1.2.2.1) (s + r1.2.2.2) = some r) ∨
      (∃ J ds bvs r1 cs v, cut h avs = some (J, ds, bvs) ∧ (lg_sl bvs).length ≤ xml X mj ∧ ih (fb - 1) (lb - (19 + xml X mj)) mj 0 (lv_args 0 bvs) [] ds 0 0 = some r1 ∧ J.length ≤ r1.2.1.length ∧ rcs (bk J h.length) r1.2.1 = some cs ∧ rvo (bk J h.length) r1.1 = some v ∧ ih fb lb mi (pc + 3) lv (v.toList ++ rest) (mg h J cs) (c + r1.2.2.1) (s + r1.2.2.2) = some r)) := by
  obtain ⟨h1, h2⟩ := x_ck_v hr
  simp only [Bool.and_eq_true] at h1
  refine ⟨Nat.le_of_ble_eq_true h1.1, Nat.le_of_ble_eq_true h1.2.1, Nat.le_of_ble_eq_true h1.2.2, ?_⟩
  split at h2
  · next q hq =>
    obtain ⟨J, ds, bvs⟩ := q
    obtain ⟨h3, h4⟩ := x_ck_v h2
    cases ho : ih (fb - 1) (lb - (19 + xml X mj)) mj 0 (lv_args 0 bvs) [] ds 0 0 with
    | none => rw [ho] at h4; cases h4
    | some r1 =>
      rw [ho, Option.bind_some] at h4
      obtain ⟨h5, h6⟩ := x_ck_v h4
      cases h7 : rcs (bk J h.length) r1.2.1 with
      | none => rw [h7] at h6; cases h6
      | some cs =>
        rw [h7, Option.bind_some] at h6
        cases h8 : rvo (bk J h.length) r1.1 with
        | none => rw [h8] at h6; cases h6
        | some v =>
          rw [h8, Option.bind_some, frc_eq] at h6
          exact Or.inr ⟨J, ds, bvs, r1, cs, v, hq, Nat.le_of_ble_eq_true h3, ho, Nat.le_of_ble_eq_true h5, h7, h8, h6⟩
  · obtain ⟨h3, h4⟩ := x_ck_v h2
    cases ho : ih (fb - 1) (lb - (19 + xml X mj)) mj 0 (lv_args 0 avs) [] h 0 0 with
    | none => rw [ho] at h4; cases h4
    | some r1 =>
      rw [ho] at h4
      exact Or.inl ⟨Nat.le_of_ble_eq_true h3, r1, rfl, h4⟩
theorem run_mono {X : xProg} {Y : Nat → MethodName} {kd : Nat → Nat} : ∀ (n fb lb mi pc : Nat) (lv : xL) (st : List Value) (h : xH) (c s : Nat) (r : xR), run X Y kd n fb lb mi pc lv st h c s = some r → c ≤ r.2.2.1 ∧ s ≤ r.2.2.2 := by
  intro n
  induction n with
  | zero => intro fb lb mi pc lv st h c s r hr; cases hr
  | succ n ih =>
    intro fb lb mi pc lv st h c s r hr
    rw [run_s] at hr
    cases hd : xdec X mi pc with
    | none => rw [hd] at hr; cases hr
    | some i =>
      rw [hd] at hr
      have go : ∀ {rest : List Value} {mj : Nat} {avs : List Value}, x_go X (run X Y kd n) fb lb mi pc lv rest h c s mj avs = some r → c ≤ r.2.2.1 ∧ s ≤ r.2.2.2 := by
        intro rest mj avs hg
        obtain ⟨-, -, -, hh⟩ := x_go_v hg
        rcases hh with ⟨-, r1, -, h2⟩ | ⟨J, ds, bvs, r1, cs, v, -, -, -, -, -, -, h2⟩
        · have := ih _ _ _ _ _ _ _ _ _ _ h2
          omega
        · have := ih _ _ _ _ _ _ _ _ _ _ h2
          omega
      rcases x_run_v hr with ⟨v, -, -, -, rfl⟩ | ⟨v, -, -, -, rfl⟩ | ⟨a, rt, -, -, -, -, rfl⟩ | ⟨-, -, -, rfl⟩ | ⟨idx, q, mj, b, rest, ci, vs, -, -, -, -, -, -, -, hg⟩ | ⟨idx, q, mj, -, -, -, -, hg⟩ | ⟨idx, q, mj, b, rest, -, -, -, -, -, hg⟩ | ⟨idx, b, rest, -, -, -, -, -, hg⟩ | ⟨idx, q, w, -, -, -, -, -, hg⟩ | ⟨o, -, hg⟩
      · exact ⟨Nat.le_refl _, Nat.le_refl _⟩
      · exact ⟨Nat.le_refl _, Nat.le_refl _⟩
      · exact ⟨Nat.le_refl _, Nat.le_refl _⟩
      · exact ⟨Nat.le_refl _, Nat.le_refl _⟩
      · exact go hg
      · exact go hg
      · exact go hg
      · exact ih _ _ _ _ _ _ _ _ _ _ hg
      · exact ih _ _ _ _ _ _ _ _ _ _ hg
      · have := ih _ _ _ _ _ _ _ _ _ _ hg
        omega
