/-! the small machine as a relation, with throws: what is shown of it by reasoning -/
abbrev yO : Type := (Option Value) ⊕ String
abbrev yR : Type := yO × xH × Nat × Nat
abbrev yK : Type := Nat → Nat → Nat → Nat → xL → List Value → xH → Nat → Nat → yR → Prop
/-- a part of the cells, its places J, under new numbers -/
def cutJ (h : xH) (avs : List Value) (J : List Nat) (ds : List xC) (bvs : List Value) : Prop := ndp J = true ∧ ∃ cs, pick h J = some cs ∧ rcs (sp J) cs = some ds ∧ rvs (sp J) avs = some bvs
def y_go (X : xProg) (ih : yK) (fb lb mi pc : Nat) (lv : xL) (rest : List Value) (h : xH) (c s mj : Nat) (avs : List Value) (vt : Prop) (r : yR) : Prop :=
  x_sum rest ≤ 8 ∧ 1 ≤ fb ∧ 19 + xml X mj ≤ lb ∧
  ((∃ v h1 c1 s1, (lg_sl avs).length ≤ xml X mj ∧ ih (fb - 1) (lb - (19 + xml X mj)) mj 0 (lv_args 0 avs) [] h 0 0 (.inl v, h1, c1, s1) ∧ ih fb lb mi (pc + 3) lv (v.toList ++ rest) h1 (c + c1) (s + s1) r) ∨
   (∃ J ds bvs v1 h1 c1 s1 cs v, cutJ h avs J ds bvs ∧ (lg_sl bvs).length ≤ xml X mj ∧ ih (fb - 1) (lb - (19 + xml X mj)) mj 0 (lv_args 0 bvs) [] ds 0 0 (.inl v1, h1, c1, s1) ∧ J.length ≤ h1.length ∧ rcs (bk J h.length) h1 = some cs ∧ rvo (bk J h.length) v1 = some v ∧ ih fb lb mi (pc + 3) lv (v.toList ++ rest) (mg h J cs) (c + c1) (s + s1) r) ∨
   (∃ k h1 c1 s1, vt ∧ (lg_sl avs).length ≤ xml X mj ∧ ih (fb - 1) (lb - (19 + xml X mj)) mj 0 (lv_args 0 avs) [] h 0 0 (.inr k, h1, c1, s1) ∧ r = (.inr k, h1, c + c1, s + s1)))
/-- where 'throw new E()' stands: the class's place, the constructor's, its name -/
abbrev xTh : Type := Nat → Nat → Option (Nat × Nat × String)
def y_run (X : xProg) (Y : Nat → MethodName) (kd : Nat → Nat) (TH : xTh) (ih : yK) (fb lb mi pc : Nat) (lv : xL) (st : List Value) (h : xH) (c s : Nat) (r : yR) (i : Instr) : Prop :=
    (∃ v, i = .ireturn ∧ st = [.int v] ∧ (∃ ty, xrt X mi = some ty ∧ narrow ty (.int v) = .int v) ∧ r = (.inl (some (.int v)), h, c, s)) ∨
    (∃ v, i = .lreturn ∧ st = [.long v] ∧ xrt X mi = some .long ∧ r = (.inl (some (.long v)), h, c, s)) ∨
    (∃ a rt, i = .areturn ∧ st = [.ref a] ∧ xrt X mi = some rt ∧ ((∃ n, rt = .object n) ∨ ∃ t, rt = .array t) ∧ r = (.inl (some (.ref a)), h, c, s)) ∨
    (i = .return_ ∧ st = [] ∧ xrt X mi = none ∧ r = (.inl none, h, c, s)) ∨
    (∃ idx q mj b rest ci vs, i = .invokevirtual idx ∧ xinv X mi idx = some (some mj, q) ∧ st.drop q = .ref b :: rest ∧ q ≤ st.length ∧ h[b]? = some (.inl (ci, vs)) ∧ xcn X ci = (Y mj).cls ∧ kd mj = 0 ∧ y_go X ih fb lb mi pc lv rest h c s mj (.ref b :: (st.take q).reverse) True r) ∨
    (∃ idx q mj, i = .invokestatic idx ∧ xinv X mi idx = some (some mj, q) ∧ q ≤ st.length ∧ kd mj = 1 ∧ y_go X ih fb lb mi pc lv (st.drop q) h c s mj (st.take q).reverse False r) ∨
    (∃ idx q mj b rest, i = .invokespecial idx ∧ xinv X mi idx = some (some mj, q) ∧ st.drop q = .ref b :: rest ∧ q ≤ st.length ∧ kd mj = 2 ∧ y_go X ih fb lb mi pc lv rest h c s mj (.ref b :: (st.take q).reverse) False r) ∨
    (∃ idx b rest, i = .invokespecial idx ∧ xinv X mi idx = some (none, 0) ∧ st = .ref b :: rest ∧ 1 ≤ fb ∧ x_sum rest + 12 ≤ lb ∧ ih fb lb mi (pc + 3) lv rest h c s r) ∨
    (∃ idx q w, i = .invokestatic idx ∧ xinv X mi idx = some (none, q) ∧ x_math q st = some w ∧ 1 ≤ fb ∧ x_sum w.2 + 13 ≤ lb ∧ ih fb lb mi (pc + 3) lv (.int w.1 :: w.2) h c s r) ∨
    (∃ o, x_hs X mi i pc lv st h = some o ∧ ih fb lb mi o.1.1 o.1.2.1 o.1.2.2 o.2.1 (c + o.2.2.1) (s + o.2.2.2) r) ∨
    (∃ ia ic k, i = .new ia ∧ TH mi pc = some (ia, ic, k) ∧ xdec X mi (pc + 3) = some .dup ∧ xdec X mi (pc + 4) = some (.invokespecial ic) ∧ xdec X mi (pc + 7) = some .athrow ∧ 7 ≤ fb ∧ x_sum st + 100 ≤ lb ∧ r = (.inr k, h, c + 1, s + 6)) ∨
    (∃ lv' : xL, (∀ q ∈ lv', q ∈ lv) ∧ ih fb lb mi pc lv' st h c s r)
def Rn (X : xProg) (Y : Nat → MethodName) (kd : Nat → Nat) (TH : xTh) : Nat → yK
  | 0 => fun _ _ _ _ _ _ _ _ _ _ => False
  | n + 1 => fun fb lb mi pc lv st h c s r => ∃ i, xdec X mi pc = some i ∧ y_run X Y kd TH (Rn X Y kd TH n) fb lb mi pc lv st h c s r i
theorem y_go_le {X : xProg} {ih ih' : yK} (H : ∀ fb lb mi pc lv st h c s r, ih fb lb mi pc lv st h c s r → ih' fb lb mi pc lv st h c s r) {fb lb mi pc : Nat} {lv : xL} {rest : List Value} {h : xH} {c s mj : Nat} {avs : List Value} {vt : Prop} {r : yR} (hg : y_go X ih fb lb mi pc lv rest h c s mj avs vt r) : y_go X ih' fb lb mi pc lv rest h c s mj avs vt r := by
  obtain ⟨g1, g2, g3, g4⟩ := hg
  refine ⟨g1, g2, g3, ?_⟩
  rcases g4 with ⟨v, h1, c1, s1, k1, k2, k3⟩ | ⟨J, ds, bvs, v1, h1, c1, s1, cs, v, k1, k2, k3, k4, k5, k6, k7⟩ | ⟨k, h1, c1, s1, k1, k2, k3, k4⟩
  · exact Or.inl ⟨v, h1, c1, s1, k1, H _ _ _ _ _ _ _ _ _ _ k2, H _ _ _ _ _ _ _ _ _ _ k3⟩
  · exact Or.inr (Or.inl ⟨J, ds, bvs, v1, h1, c1, s1, cs, v, k1, k2, H _ _ _ _ _ _ _ _ _ _ k3, k4, k5, k6, H _ _ _ _ _ _ _ _ _ _ k7⟩)
  · exact Or.inr (Or.inr ⟨k, h1, c1, s1, k1, k2, H _ _ _ _ _ _ _ _ _ _ k3, k4⟩)
theorem y_run_le {X : xProg} {Y : Nat → MethodName} {kd : Nat → Nat} {TH : xTh} {ih ih' : yK} (H : ∀ fb lb mi pc lv st h c s r, ih fb lb mi pc lv st h c s r → ih' fb lb mi pc lv st h c s r) {fb lb mi pc : Nat} {lv : xL} {st : List Value} {h : xH} {c s : Nat} {r : yR} {i : Instr} (hg : y_run X Y kd TH ih fb lb mi pc lv st h c s r i) : y_run X Y kd TH ih' fb lb mi pc lv st h c s r i := by
  rcases hg with q | q | q | q | ⟨idx, q, mj, b, rest, ci, vs, k1, k2, k3, k4, k5, k6, k7, k8⟩ | ⟨idx, q, mj, k1, k2, k3, k4, k5⟩ | ⟨idx, q, mj, b, rest, k1, k2, k3, k4, k5, k6⟩ | ⟨idx, b, rest, k1, k2, k3, k4, k5, k6⟩ | ⟨idx, q, w, k1, k2, k3, k4, k5, k6⟩ | ⟨o, k1, k2⟩ | q | ⟨lv', k1, k2⟩
  · exact Or.inl q
  · exact Or.inr (Or.inl q)
  · exact Or.inr (Or.inr (Or.inl q))
  · exact Or.inr (Or.inr (Or.inr (Or.inl q)))
  · exact Or.inr (Or.inr (Or.inr (Or.inr (Or.inl ⟨idx, q, mj, b, rest, ci, vs, k1, k2, k3, k4, k5, k6, k7, y_go_le H k8⟩))))
  · exact Or.inr (Or.inr (Or.inr (Or.inr (Or.inr (Or.inl ⟨idx, q, mj, k1, k2, k3, k4, y_go_le H k5⟩)))))
  · exact Or.inr (Or.inr (Or.inr (Or.inr (Or.inr (Or.inr (Or.inl ⟨idx, q, mj, b, rest, k1, k2, k3, k4, k5, y_go_le H k6⟩))))))
  · exact Or.inr (Or.inr (Or.inr (Or.inr (Or.inr (Or.inr (Or.inr (Or.inl ⟨idx, b, rest, k1, k2, k3, k4, k5, H _ _ _ _ _ _ _ _ _ _ k6⟩)))))))
  · exact Or.inr (Or.inr (Or.inr (Or.inr (Or.inr (Or.inr (Or.inr (Or.inr (Or.inl ⟨idx, q, w, k1, k2, k3, k4, k5, H _ _ _ _ _ _ _ _ _ _ k6⟩))))))))
  · exact Or.inr (Or.inr (Or.inr (Or.inr (Or.inr (Or.inr (Or.inr (Or.inr (Or.inr (Or.inl ⟨o, k1, H _ _ _ _ _ _ _ _ _ _ k2⟩)))))))))
  · exact Or.inr (Or.inr (Or.inr (Or.inr (Or.inr (Or.inr (Or.inr (Or.inr (Or.inr (Or.inr (Or.inl q))))))))))
  · exact Or.inr (Or.inr (Or.inr (Or.inr (Or.inr (Or.inr (Or.inr (Or.inr (Or.inr (Or.inr (Or.inr ⟨lv', k1, H _ _ _ _ _ _ _ _ _ _ k2⟩))))))))))
theorem Rn_s {X : xProg} {Y : Nat → MethodName} {kd : Nat → Nat} {TH : xTh} : ∀ (n fb lb mi pc : Nat) (lv : xL) (st : List Value) (h : xH) (c s : Nat) (r : yR), Rn X Y kd TH n fb lb mi pc lv st h c s r → Rn X Y kd TH (n + 1) fb lb mi pc lv st h c s r := by
  intro n
  induction n with
  | zero => intro fb lb mi pc lv st h c s r hr; exact hr.elim
  | succ n ih =>
    intro fb lb mi pc lv st h c s r hr
    obtain ⟨i, h1, h2⟩ := hr
    exact ⟨i, h1, y_run_le ih h2⟩
theorem Rn_le {X : xProg} {Y : Nat → MethodName} {kd : Nat → Nat} {TH : xTh} {n n' : Nat} (hn : n ≤ n') {fb lb mi pc : Nat} {lv : xL} {st : List Value} {h : xH} {c s : Nat} {r : yR} (hr : Rn X Y kd TH n fb lb mi pc lv st h c s r) : Rn X Y kd TH n' fb lb mi pc lv st h c s r := by
  induction hn with
  | refl => exact hr
  | step _ ih => exact Rn_s _ _ _ _ _ _ _ _ _ _ _ ih
/-- a run is one of these -/
theorem Rn_run {X : xProg} {Y : Nat → MethodName} {kd : Nat → Nat} {TH : xTh} : ∀ (n fb lb mi pc : Nat) (lv : xL) (st : List Value) (h : xH) (c s : Nat) (r : xR), run X Y kd n fb lb mi pc lv st h c s = some r → Rn X Y kd TH n fb lb mi pc lv st h c s (.inl r.1, r.2) := by
  intro n
  induction n with
  | zero => intro fb lb mi pc lv st h c s r hr; cases hr
  | succ n ih =>
    intro fb lb mi pc lv st h c s r hr
    rw [run_s] at hr
    cases hd : xdec X mi pc with
    | none => rw [hd] at hr; cases hr
    | some i =>
      rw [hd] at hr
      refine ⟨i, hd, ?_⟩
      have go : ∀ {rest : List Value} {mj : Nat} {avs : List Value} (vt : Prop), x_go X (run X Y kd n) fb lb mi pc lv rest h c s mj avs = some r → y_go X (Rn X Y kd TH n) fb lb mi pc lv rest h c s mj avs vt (.inl r.1, r.2) := by
        intro rest mj avs vt hg
        obtain ⟨g1, g2, g3, hh⟩ := x_go_v hg
        refine ⟨g1, g2, g3, ?_⟩
        rcases hh with ⟨k0, r1, k1, k2⟩ | ⟨J, ds, bvs, r1, cs, v, k0, k1, k2, k3, k4, k5, k6⟩
        · exact Or.inl ⟨r1.1, r1.2.1, r1.2.2.1, r1.2.2.2, k0, ih _ _ _ _ _ _ _ _ _ _ k1, ih _ _ _ _ _ _ _ _ _ _ k2⟩
        · exact Or.inr (Or.inl ⟨J, ds, bvs, r1.1, r1.2.1, r1.2.2.1, r1.2.2.2, cs, v, cut_v k0, k1, ih _ _ _ _ _ _ _ _ _ _ k2, k3, k4, k5, ih _ _ _ _ _ _ _ _ _ _ k6⟩)
      rcases x_run_v hr with ⟨v, k1, k2, k3, rfl⟩ | ⟨v, k1, k2, k3, rfl⟩ | ⟨a, rt, k1, k2, k3, k4, rfl⟩ | ⟨k1, k2, k3, rfl⟩ | ⟨idx, q, mj, b, rest, ci, vs, k1, k2, k3, k4, k5, k6, k7, hg⟩ | ⟨idx, q, mj, k1, k2, k3, k4, hg⟩ | ⟨idx, q, mj, b, rest, k1, k2, k3, k4, k5, hg⟩ | ⟨idx, b, rest, k1, k2, k3, k4, k5, hg⟩ | ⟨idx, q, w, k1, k2, k3, k4, k5, hg⟩ | ⟨o, k1, hg⟩
      · exact Or.inl ⟨v, k1, k2, k3, rfl⟩
      · exact Or.inr (Or.inl ⟨v, k1, k2, k3, rfl⟩)
      · exact Or.inr (Or.inr (Or.inl ⟨a, rt, k1, k2, k3, k4, rfl⟩))
      · exact Or.inr (Or.inr (Or.inr (Or.inl ⟨k1, k2, k3, rfl⟩)))
      · exact Or.inr (Or.inr (Or.inr (Or.inr (Or.inl ⟨idx, q, mj, b, rest, ci, vs, k1, k2, k3, k4, k5, k6, k7, go _ hg⟩))))
      · exact Or.inr (Or.inr (Or.inr (Or.inr (Or.inr (Or.inl ⟨idx, q, mj, k1, k2, k3, k4, go _ hg⟩)))))
      · exact Or.inr (Or.inr (Or.inr (Or.inr (Or.inr (Or.inr (Or.inl ⟨idx, q, mj, b, rest, k1, k2, k3, k4, k5, go _ hg⟩))))))
      · exact Or.inr (Or.inr (Or.inr (Or.inr (Or.inr (Or.inr (Or.inr (Or.inl ⟨idx, b, rest, k1, k2, k3, k4, k5, ih _ _ _ _ _ _ _ _ _ _ hg⟩)))))))
      · exact Or.inr (Or.inr (Or.inr (Or.inr (Or.inr (Or.inr (Or.inr (Or.inr (Or.inl ⟨idx, q, w, k1, k2, k3, k4, k5, ih _ _ _ _ _ _ _ _ _ _ hg⟩))))))))
      · exact Or.inr (Or.inr (Or.inr (Or.inr (Or.inr (Or.inr (Or.inr (Or.inr (Or.inr (Or.inl ⟨o, k1, ih _ _ _ _ _ _ _ _ _ _ hg⟩)))))))))
theorem Rn_mono {X : xProg} {Y : Nat → MethodName} {kd : Nat → Nat} {TH : xTh} : ∀ (n fb lb mi pc : Nat) (lv : xL) (st : List Value) (h : xH) (c s : Nat) (r : yR), Rn X Y kd TH n fb lb mi pc lv st h c s r → c ≤ r.2.2.1 ∧ s ≤ r.2.2.2 := by
  intro n
  induction n with
  | zero => intro fb lb mi pc lv st h c s r hr; exact hr.elim
  | succ n ih =>
    intro fb lb mi pc lv st h c s r hr
    obtain ⟨i, hd, hr⟩ := hr
    have go : ∀ {rest : List Value} {mj : Nat} {avs : List Value} {vt : Prop}, y_go X (Rn X Y kd TH n) fb lb mi pc lv rest h c s mj avs vt r → c ≤ r.2.2.1 ∧ s ≤ r.2.2.2 := by
      intro rest mj avs vt hg
      obtain ⟨-, -, -, hh⟩ := hg
      rcases hh with ⟨v, h1, c1, s1, k1, k2, k3⟩ | ⟨J, ds, bvs, v1, h1, c1, s1, cs, v, k1, k2, k3, k4, k5, k6, k7⟩ | ⟨k, h1, c1, s1, k1, k2, k3, rfl⟩
      · have := ih _ _ _ _ _ _ _ _ _ _ k3
        omega
      · have := ih _ _ _ _ _ _ _ _ _ _ k7
        omega
      · exact ⟨Nat.le_add_right _ _, Nat.le_add_right _ _⟩
    rcases hr with ⟨v, -, -, -, rfl⟩ | ⟨v, -, -, -, rfl⟩ | ⟨a, rt, -, -, -, -, rfl⟩ | ⟨-, -, -, rfl⟩ | ⟨idx, q, mj, b, rest, ci, vs, -, -, -, -, -, -, -, hg⟩ | ⟨idx, q, mj, -, -, -, -, hg⟩ | ⟨idx, q, mj, b, rest, -, -, -, -, -, hg⟩ | ⟨idx, b, rest, -, -, -, -, -, hg⟩ | ⟨idx, q, w, -, -, -, -, -, hg⟩ | ⟨o, -, hg⟩ | ⟨ia, ic, k, -, -, -, -, -, -, -, rfl⟩ | ⟨lv', -, hg⟩
    · exact ⟨Nat.le_refl _, Nat.le_refl _⟩
    · exact ⟨Nat.le_refl _, Nat.le_refl _⟩
    · exact ⟨Nat.le_refl _, Nat.le_refl _⟩
    · exact ⟨Nat.le_refl _, Nat.le_refl _⟩
    · exact go hg
    · exact go hg
    · exact go hg
    · exact ih _ _ _ _ _ _ _ _ _ _ hg
    · exact ih _ _ _ _ _ _ _ _ _ _ hg
    · have := ih _ _ _ _ _ _ _ _ _ _ hg
      omega
    · exact ⟨Nat.le_add_right _ _, Nat.le_add_right _ _⟩
    · exact ih _ _ _ _ _ _ _ _ _ _ hg
theorem cutJ_wr {as : List Nat} {tys : List (ClassId × FieldType)} {h : xH} {ws : va_W} (hw : wr as tys h ws) {avs cvs : List Value} {J : List Nat} {ds : List xC} {bvs : List Value} (hc : cutJ h avs J ds bvs) (ha : vrs as avs cvs) : ndp J = true ∧ (∀ j ∈ J, j < h.length) ∧ wr (asJ as J) tys ds (wsJ ws J) ∧ vrs (asJ as J) bvs cvs := by
  obtain ⟨h1, cs, h2, h3, h4⟩ := hc
  obtain ⟨e1, e2⟩ := pick_at h2
  obtain ⟨e3, e4⟩ := rcs_at h3
  have R : Ren (sp J) as (asJ as J) := fun i j a h5 h6 => asJ_at (sp_at h5) h6
  have hJ : ∀ j ∈ J, j < h.length := fun j hj => by
    obtain ⟨k, hk⟩ := List.getElem?_of_mem hj
    obtain ⟨c, g1, -⟩ := e2 k j hk
    exact (List.getElem?_eq_some_iff.mp g1).1
  refine ⟨h1, hJ, ⟨by simp [asJ, e3, e1], by simp [wsJ, e3, e1], fun k d hd => ?_⟩, rvs_ok R h4 ha⟩
  obtain ⟨c, g1, g2⟩ := e4 k d hd
  have hkl : k < J.length := by rw [← e1]; exact (List.getElem?_eq_some_iff.mp g1).1
  obtain ⟨j, hj⟩ : ∃ j, J[k]? = some j := ⟨J[k], List.getElem?_eq_getElem hkl⟩
  obtain ⟨c', g3, g4⟩ := e2 k j hj
  have hcc : c' = c := Option.some.inj (g4.symm.trans g1)
  subst hcc
  obtain ⟨a, e, g5, g6, g7⟩ := hw.2.2 j _ g3
  refine ⟨a, e, asJ_at hj g5, wsJ_at hj g6, ?_⟩
  have := rc_ok (u := []) R g2 g7
  rw [List.append_nil] at this
  exact this
/-- fewer locals, in any order -/
theorem lrs_mem {as : List Nat} : ∀ {lv clv : xL}, lrs as lv clv → ∀ q ∈ lv, ∃ y, (q.1, y) ∈ clv ∧ vr as q.2 y
  | [], _, _, q, hq => by cases hq
  | v :: l, _, h, q, hq => by
    obtain ⟨x, r, rfl, h2, h3⟩ := h
    rcases List.mem_cons.mp hq with e | e
    · subst e; exact ⟨x, List.mem_cons_self, h2⟩
    · obtain ⟨y, h4, h5⟩ := lrs_mem h3 q e
      exact ⟨y, List.mem_cons_of_mem _ h4, h5⟩
theorem lrs_few {as : List Nat} {clv : xL} : ∀ {lv' : xL}, (∀ q ∈ lv', ∃ y, (q.1, y) ∈ clv ∧ vr as q.2 y) → ∃ clv', lrs as lv' clv' ∧ ∀ p ∈ clv', p ∈ clv
  | [], _ => ⟨[], rfl, fun _ h => by cases h⟩
  | v :: l, h => by
    obtain ⟨y, h1, h2⟩ := h v List.mem_cons_self
    obtain ⟨c, h3, h4⟩ := lrs_few (lv' := l) (fun q hq => h q (List.mem_cons_of_mem _ hq))
    refine ⟨(v.1, y) :: c, lrs_c h2 h3, fun p hp => ?_⟩
    rcases List.mem_cons.mp hp with e | e
    · rw [e]; exact h1
    · exact h4 p e
