/-! reasoning about the relation: where a run goes, block by block -/
def Go (X : xProg) (Y : Nat → MethodName) (kd : Nat → Nat) (TH : xTh) (fb lb mi pc : Nat) (lv : xL) (st : List Value) (h : xH) (c s : Nat) (Q : yR → Prop) : Prop := ∃ n r, Rn X Y kd TH n fb lb mi pc lv st h c s r ∧ Q r
section GO
variable {X : xProg} {Y : Nat → MethodName} {kd : Nat → Nat} {TH : xTh} {fb lb mi pc : Nat} {lv : xL} {st : List Value} {h : xH} {c s : Nat} {Q : yR → Prop}
theorem Go.weak {Q' : yR → Prop} (hg : Go X Y kd TH fb lb mi pc lv st h c s Q) (hq : ∀ r, Q r → Q' r) : Go X Y kd TH fb lb mi pc lv st h c s Q' := by
  obtain ⟨n, r, h1, h2⟩ := hg
  exact ⟨n, r, h1, hq r h2⟩
theorem go_run {n : Nat} {r : xR} (hr : run X Y kd n fb lb mi pc lv st h c s = some r) (hq : Q (.inl r.1, r.2)) : Go X Y kd TH fb lb mi pc lv st h c s Q := ⟨n, _, Rn_run _ _ _ _ _ _ _ _ _ _ _ hr, hq⟩
theorem go_hs {i : Instr} {o : xQ} (hd : xdec X mi pc = some i) (ho : x_hs X mi i pc lv st h = some o) (hk : Go X Y kd TH fb lb mi o.1.1 o.1.2.1 o.1.2.2 o.2.1 (c + o.2.2.1) (s + o.2.2.2) Q) : Go X Y kd TH fb lb mi pc lv st h c s Q := by
  obtain ⟨n, r, h1, h2⟩ := hk
  exact ⟨n + 1, r, ⟨i, hd, Or.inr (Or.inr (Or.inr (Or.inr (Or.inr (Or.inr (Or.inr (Or.inr (Or.inr (Or.inl ⟨o, ho, h1⟩)))))))))⟩, h2⟩
theorem go_iret {v : Int32} {ty : FieldType} (hd : xdec X mi pc = some .ireturn) (ht : xrt X mi = some ty) (hn : narrow ty (.int v) = .int v) (hq : Q (.inl (some (.int v)), h, c, s)) : Go X Y kd TH fb lb mi pc lv [.int v] h c s Q := ⟨1, _, ⟨_, hd, Or.inl ⟨v, rfl, rfl, ⟨ty, ht, hn⟩, rfl⟩⟩, hq⟩
theorem go_lret {v : Int64} (hd : xdec X mi pc = some .lreturn) (ht : xrt X mi = some .long) (hq : Q (.inl (some (.long v)), h, c, s)) : Go X Y kd TH fb lb mi pc lv [.long v] h c s Q := ⟨1, _, ⟨_, hd, Or.inr (Or.inl ⟨v, rfl, rfl, ht, rfl⟩)⟩, hq⟩
theorem go_aret {a : Nat} {rt : FieldType} (hd : xdec X mi pc = some .areturn) (ht : xrt X mi = some rt) (hn : (∃ n, rt = .object n) ∨ ∃ t, rt = .array t) (hq : Q (.inl (some (.ref a)), h, c, s)) : Go X Y kd TH fb lb mi pc lv [.ref a] h c s Q := ⟨1, _, ⟨_, hd, Or.inr (Or.inr (Or.inl ⟨a, rt, rfl, rfl, ht, hn, rfl⟩))⟩, hq⟩
theorem go_vret (hd : xdec X mi pc = some .return_) (ht : xrt X mi = none) (hq : Q (.inl none, h, c, s)) : Go X Y kd TH fb lb mi pc lv [] h c s Q := ⟨1, _, ⟨_, hd, Or.inr (Or.inr (Or.inr (Or.inl ⟨rfl, rfl, ht, rfl⟩)))⟩, hq⟩
theorem go_throw {ia ic : Nat} {k : String} (hd : xdec X mi pc = some (.new ia)) (ht : TH mi pc = some (ia, ic, k)) (h3 : xdec X mi (pc + 3) = some .dup) (h4 : xdec X mi (pc + 4) = some (.invokespecial ic)) (h7 : xdec X mi (pc + 7) = some .athrow) (hf : 7 ≤ fb) (hl : x_sum st + 100 ≤ lb) (hq : Q (.inr k, h, c + 1, s + 6)) : Go X Y kd TH fb lb mi pc lv st h c s Q := ⟨1, _, ⟨_, hd, Or.inr (Or.inr (Or.inr (Or.inr (Or.inr (Or.inr (Or.inr (Or.inr (Or.inr (Or.inr (Or.inl ⟨ia, ic, k, rfl, ht, h3, h4, h7, hf, hl, rfl⟩))))))))))⟩, hq⟩
/-- fewer locals, in any order -/
theorem go_few {i : Instr} (lv' : xL) (hd : xdec X mi pc = some i) (h1 : ∀ q ∈ lv', q ∈ lv) (hk : Go X Y kd TH fb lb mi pc lv' st h c s Q) : Go X Y kd TH fb lb mi pc lv st h c s Q := by
  obtain ⟨n, r, g1, g2⟩ := hk
  exact ⟨n + 1, r, ⟨i, hd, Or.inr (Or.inr (Or.inr (Or.inr (Or.inr (Or.inr (Or.inr (Or.inr (Or.inr (Or.inr (Or.inr ⟨lv', h1, g1⟩))))))))))⟩, g2⟩
theorem go_math {idx q : Nat} {w : Int32 × List Value} (hd : xdec X mi pc = some (.invokestatic idx)) (hi : xinv X mi idx = some (none, q)) (hm : x_math q st = some w) (hf : 1 ≤ fb) (hl : x_sum w.2 + 13 ≤ lb) (hk : Go X Y kd TH fb lb mi (pc + 3) lv (.int w.1 :: w.2) h c s Q) : Go X Y kd TH fb lb mi pc lv st h c s Q := by
  obtain ⟨n, r, h1, h2⟩ := hk
  exact ⟨n + 1, r, ⟨_, hd, Or.inr (Or.inr (Or.inr (Or.inr (Or.inr (Or.inr (Or.inr (Or.inr (Or.inl ⟨idx, q, w, rfl, hi, hm, hf, hl, h1⟩))))))))⟩, h2⟩
/-- a contract: the method, its frames and locals, arguments, cells, end -/
def Ct (X : xProg) (Y : Nat → MethodName) (kd : Nat → Nat) (TH : xTh) (mj F B : Nat) (avs : List Value) (h : xH) (Q : yR → Prop) : Prop := ∀ fb lb, F ≤ fb → B ≤ lb → Go X Y kd TH fb lb mj 0 (lv_args 0 avs) [] h 0 0 Q
theorem Ct.weak {mj F B : Nat} {avs : List Value} {Q' : yR → Prop} (hg : Ct X Y kd TH mj F B avs h Q) (hq : ∀ r, Q r → Q' r) : Ct X Y kd TH mj F B avs h Q' := fun fb lb h1 h2 => (hg fb lb h1 h2).weak hq
theorem y_call {mj F B : Nat} {avs rest : List Value} {vt : Prop} {Q1 : yR → Prop} (hc : Ct X Y kd TH mj F B avs h Q1) (hs : x_sum rest ≤ 8) (hf : F + 1 ≤ fb) (hl : B + (19 + xml X mj) ≤ lb) (hn : (lg_sl avs).length ≤ xml X mj)
    (hk : ∀ v h1 c1 s1, Q1 (.inl v, h1, c1, s1) → Go X Y kd TH fb lb mi (pc + 3) lv (v.toList ++ rest) h1 (c + c1) (s + s1) Q) (ht : ∀ k h1 c1 s1, Q1 (.inr k, h1, c1, s1) → vt ∧ Q (.inr k, h1, c + c1, s + s1)) : ∃ n r, y_go X (Rn X Y kd TH n) fb lb mi pc lv rest h c s mj avs vt r ∧ Q r := by
  obtain ⟨n, r, h1, h2⟩ := hc (fb - 1) (lb - (19 + xml X mj)) (by omega) (by omega)
  obtain ⟨o, hh, c1, s1⟩ := r
  cases o with
  | inl v =>
    obtain ⟨n', r', k1, k2⟩ := hk v hh c1 s1 h2
    exact ⟨max n n', r', ⟨hs, by omega, by omega, Or.inl ⟨v, hh, c1, s1, hn, Rn_le (Nat.le_max_left _ _) h1, Rn_le (Nat.le_max_right _ _) k1⟩⟩, k2⟩
  | inr k =>
    obtain ⟨k1, k2⟩ := ht k hh c1 s1 h2
    exact ⟨n, _, ⟨hs, by omega, by omega, Or.inr (Or.inr ⟨k, hh, c1, s1, k1, hn, h1, rfl⟩)⟩, k2⟩
theorem go_v {idx q mj F B b ci : Nat} {rest vs : List Value} {Q1 : yR → Prop} (avs : List Value) (hd : xdec X mi pc = some (.invokevirtual idx)) (hi : xinv X mi idx = some (some mj, q)) (hst : st.drop q = .ref b :: rest) (hq : q ≤ st.length) (ha : avs = .ref b :: (st.take q).reverse) (hb : h[b]? = some (.inl (ci, vs))) (hcn : xcn X ci = (Y mj).cls) (hkd : kd mj = 0) (hc : Ct X Y kd TH mj F B avs h Q1) (hs : x_sum rest ≤ 8) (hf : F + 1 ≤ fb) (hl : B + (19 + xml X mj) ≤ lb) (hn : (lg_sl avs).length ≤ xml X mj)
    (hk : ∀ v h1 c1 s1, Q1 (.inl v, h1, c1, s1) → Go X Y kd TH fb lb mi (pc + 3) lv (v.toList ++ rest) h1 (c + c1) (s + s1) Q) (ht : ∀ k h1 c1 s1, Q1 (.inr k, h1, c1, s1) → Q (.inr k, h1, c + c1, s + s1)) : Go X Y kd TH fb lb mi pc lv st h c s Q := by
  subst ha
  obtain ⟨n, r, h1, h2⟩ := y_call (mi := mi) (pc := pc) (lv := lv) (c := c) (s := s) (vt := True) hc hs hf hl hn hk (fun k h1 c1 s1 z => ⟨trivial, ht k h1 c1 s1 z⟩)
  exact ⟨n + 1, r, ⟨_, hd, Or.inr (Or.inr (Or.inr (Or.inr (Or.inl ⟨idx, q, mj, b, rest, ci, vs, rfl, hi, hst, hq, hb, hcn, hkd, h1⟩))))⟩, h2⟩
theorem go_s {idx q mj F B : Nat} {Q1 : yR → Prop} (avs : List Value) (hd : xdec X mi pc = some (.invokestatic idx)) (hi : xinv X mi idx = some (some mj, q)) (hq : q ≤ st.length) (ha : avs = (st.take q).reverse) (hkd : kd mj = 1) (hc : Ct X Y kd TH mj F B avs h Q1) (hs : x_sum (st.drop q) ≤ 8) (hf : F + 1 ≤ fb) (hl : B + (19 + xml X mj) ≤ lb) (hn : (lg_sl avs).length ≤ xml X mj)
    (hk : ∀ v h1 c1 s1, Q1 (.inl v, h1, c1, s1) → Go X Y kd TH fb lb mi (pc + 3) lv (v.toList ++ st.drop q) h1 (c + c1) (s + s1) Q) (ht : ∀ k h1 c1 s1, ¬ Q1 (.inr k, h1, c1, s1)) : Go X Y kd TH fb lb mi pc lv st h c s Q := by
  subst ha
  obtain ⟨n, r, h1, h2⟩ := y_call (mi := mi) (pc := pc) (lv := lv) (c := c) (s := s) (vt := False) hc hs hf hl hn hk (fun k h1 c1 s1 z => (ht k h1 c1 s1 z).elim)
  exact ⟨n + 1, r, ⟨_, hd, Or.inr (Or.inr (Or.inr (Or.inr (Or.inr (Or.inl ⟨idx, q, mj, rfl, hi, hq, hkd, h1⟩)))))⟩, h2⟩
theorem go_i {idx q mj F B b : Nat} {rest : List Value} {Q1 : yR → Prop} (avs : List Value) (hd : xdec X mi pc = some (.invokespecial idx)) (hi : xinv X mi idx = some (some mj, q)) (hst : st.drop q = .ref b :: rest) (hq : q ≤ st.length) (ha : avs = .ref b :: (st.take q).reverse) (hkd : kd mj = 2) (hc : Ct X Y kd TH mj F B avs h Q1) (hs : x_sum rest ≤ 8) (hf : F + 1 ≤ fb) (hl : B + (19 + xml X mj) ≤ lb) (hn : (lg_sl avs).length ≤ xml X mj)
    (hk : ∀ v h1 c1 s1, Q1 (.inl v, h1, c1, s1) → Go X Y kd TH fb lb mi (pc + 3) lv (v.toList ++ rest) h1 (c + c1) (s + s1) Q) (ht : ∀ k h1 c1 s1, ¬ Q1 (.inr k, h1, c1, s1)) : Go X Y kd TH fb lb mi pc lv st h c s Q := by
  subst ha
  obtain ⟨n, r, h1, h2⟩ := y_call (mi := mi) (pc := pc) (lv := lv) (c := c) (s := s) (vt := False) hc hs hf hl hn hk (fun k h1 c1 s1 z => (ht k h1 c1 s1 z).elim)
  exact ⟨n + 1, r, ⟨_, hd, Or.inr (Or.inr (Or.inr (Or.inr (Or.inr (Or.inr (Or.inl ⟨idx, q, mj, b, rest, rfl, hi, hst, hq, hkd, h1⟩))))))⟩, h2⟩
theorem y_cut {mj F B : Nat} {avs bvs rest : List Value} {vt : Prop} {J : List Nat} {ds : List xC} {Q1 : yR → Prop} (hJ : cutJ h avs J ds bvs) (hc : Ct X Y kd TH mj F B bvs ds Q1) (hs : x_sum rest ≤ 8) (hf : F + 1 ≤ fb) (hl : B + (19 + xml X mj) ≤ lb) (hn : (lg_sl bvs).length ≤ xml X mj)
    (hk : ∀ v1 h1 c1 s1, Q1 (.inl v1, h1, c1, s1) → ∃ cs v, J.length ≤ h1.length ∧ rcs (bk J h.length) h1 = some cs ∧ rvo (bk J h.length) v1 = some v ∧ Go X Y kd TH fb lb mi (pc + 3) lv (v.toList ++ rest) (mg h J cs) (c + c1) (s + s1) Q) (ht : ∀ k h1 c1 s1, ¬ Q1 (.inr k, h1, c1, s1)) : ∃ n r, y_go X (Rn X Y kd TH n) fb lb mi pc lv rest h c s mj avs vt r ∧ Q r := by
  obtain ⟨n, r, h1, h2⟩ := hc (fb - 1) (lb - (19 + xml X mj)) (by omega) (by omega)
  obtain ⟨o, hh, c1, s1⟩ := r
  cases o with
  | inl v1 =>
    obtain ⟨cs, v, e1, e2, e3, n', r', k1, k2⟩ := hk v1 hh c1 s1 h2
    exact ⟨max n n', r', ⟨hs, by omega, by omega, Or.inr (Or.inl ⟨J, ds, bvs, v1, hh, c1, s1, cs, v, hJ, hn, Rn_le (Nat.le_max_left _ _) h1, e1, e2, e3, Rn_le (Nat.le_max_right _ _) k1⟩)⟩, k2⟩
  | inr k => exact (ht k hh c1 s1 h2).elim
theorem go_vc {idx q mj F B b ci : Nat} {rest vs bvs : List Value} {J : List Nat} {ds : List xC} {Q1 : yR → Prop} (avs : List Value) (hd : xdec X mi pc = some (.invokevirtual idx)) (hi : xinv X mi idx = some (some mj, q)) (hst : st.drop q = .ref b :: rest) (hq : q ≤ st.length) (ha : avs = .ref b :: (st.take q).reverse) (hb : h[b]? = some (.inl (ci, vs))) (hcn : xcn X ci = (Y mj).cls) (hkd : kd mj = 0) (hJ : cutJ h avs J ds bvs) (hc : Ct X Y kd TH mj F B bvs ds Q1) (hs : x_sum rest ≤ 8) (hf : F + 1 ≤ fb) (hl : B + (19 + xml X mj) ≤ lb) (hn : (lg_sl bvs).length ≤ xml X mj)
    (hk : ∀ v1 h1 c1 s1, Q1 (.inl v1, h1, c1, s1) → ∃ cs v, J.length ≤ h1.length ∧ rcs (bk J h.length) h1 = some cs ∧ rvo (bk J h.length) v1 = some v ∧ Go X Y kd TH fb lb mi (pc + 3) lv (v.toList ++ rest) (mg h J cs) (c + c1) (s + s1) Q) (ht : ∀ k h1 c1 s1, ¬ Q1 (.inr k, h1, c1, s1)) : Go X Y kd TH fb lb mi pc lv st h c s Q := by
  subst ha
  obtain ⟨n, r, h1, h2⟩ := y_cut (mi := mi) (pc := pc) (lv := lv) (c := c) (s := s) (vt := True) hJ hc hs hf hl hn hk ht
  exact ⟨n + 1, r, ⟨_, hd, Or.inr (Or.inr (Or.inr (Or.inr (Or.inl ⟨idx, q, mj, b, rest, ci, vs, rfl, hi, hst, hq, hb, hcn, hkd, h1⟩))))⟩, h2⟩
end GO
/-! blocks: instructions between calls; what is to be shown on the way -/
def b_if (p A B : Prop) : Prop := (p → A) ∧ (¬ p → B)
theorem b_if_i {p A B : Prop} (a : p → A) (b : ¬ p → B) : b_if p A B := ⟨a, b⟩
theorem b_if_t {p A B : Prop} (h : p) (a : A) : b_if p A B := ⟨fun _ => a, fun z => absurd h z⟩
theorem b_if_f {p A B : Prop} (h : ¬ p) (b : B) : b_if p A B := ⟨fun z => absurd z h, fun _ => b⟩
def b_in (j : Int32) (n : Nat) (f : Nat → Prop) : Prop := ∃ k : Nat, j = nI k ∧ k < n ∧ n < 2 ^ 31 ∧ f k
theorem x_in_n {j : Int32} {k n : Nat} (hj : j = nI k) (hk : k < n) (hn : n < 2 ^ 31) : x_in j n = true := by
  subst hj
  unfold x_in
  rw [nI_clamp (by omega)]
  have h0 : ¬ nI k < 0 := nI_pos (by omega)
  have h1 : Nat.blt k n = true := Nat.ble_eq_true_of_le hk
  simp [h0, h1]
theorem b_in_v {j : Int32} {n : Nat} {f : Nat → Prop} (h : b_in j n f) : x_in j n = true ∧ f j.toNatClampNeg := by
  obtain ⟨k, h1, h2, h3, h4⟩ := h
  exact ⟨x_in_n h1 h2 h3, by rw [h1, nI_clamp (by omega)]; exact h4⟩
/-- a number that stands in the code -/
def b_cI (k : Int) (f : Int32 → Prop) : Prop := match k with
  | .ofNat n => f (nI n)
  | .negSucc n => f (-nI (n + 1))
def cI (k : Int) : Int32 := match k with
  | .ofNat n => nI n
  | .negSucc n => -nI (n + 1)
theorem b_cI_v {k : Int} {f : Int32 → Prop} (h : b_cI k f) : f (cI k) := by
  cases k with
  | ofNat n => exact h
  | negSucc n => exact h
def b_ok (p P : Prop) : Prop := p ∧ P
theorem b_ok_i {p P : Prop} (h : p) (hP : P) : b_ok p P := ⟨h, hP⟩
def b_ob (h : xH) (a : Nat) (f : Nat → List Value → Prop) : Prop := match h[a]? with | some (.inl (ci, vs)) => f ci vs | _ => False
theorem b_ob_i {h : xH} {a : Nat} {f : Nat → List Value → Prop} {ci : Nat} {vs : List Value} (hb : h[a]? = some (.inl (ci, vs))) (hf : f ci vs) : b_ob h a f := by unfold b_ob; rw [hb]; exact hf
theorem b_ob_v {h : xH} {a : Nat} {f : Nat → List Value → Prop} (hf : b_ob h a f) : ∃ ci vs, h[a]? = some (.inl (ci, vs)) ∧ f ci vs := by
  unfold b_ob at hf
  split at hf
  · next ci vs e => exact ⟨ci, vs, e, hf⟩
  · exact hf.elim
def b_ai (h : xH) (a : Nat) (ty : FieldType) (f : List Int32 → Prop) : Prop := match h[a]? with | some (.inr (t, .inl x)) => (if t = ty then f x else False) | _ => False
theorem b_ai_i {h : xH} {a : Nat} {ty : FieldType} {f : List Int32 → Prop} {x : List Int32} (hb : h[a]? = some (.inr (ty, .inl x))) (hf : f x) : b_ai h a ty f := by unfold b_ai; rw [hb]; simpa using hf
theorem b_ai_v {h : xH} {a : Nat} {ty : FieldType} {f : List Int32 → Prop} (hf : b_ai h a ty f) : ∃ x, h[a]? = some (.inr (ty, .inl x)) ∧ f x := by
  unfold b_ai at hf
  split at hf
  · next t x e =>
    split at hf
    · next e2 => subst e2; exact ⟨x, e, hf⟩
    · exact hf.elim
  · exact hf.elim
def b_al (h : xH) (a : Nat) (f : List Int64 → Prop) : Prop := match h[a]? with | some (.inr (.long, .inr (.inl x))) => f x | _ => False
theorem b_al_i {h : xH} {a : Nat} {f : List Int64 → Prop} {x : List Int64} (hb : h[a]? = some (.inr (.long, .inr (.inl x)))) (hf : f x) : b_al h a f := by unfold b_al; rw [hb]; exact hf
theorem b_al_v {h : xH} {a : Nat} {f : List Int64 → Prop} (hf : b_al h a f) : ∃ x, h[a]? = some (.inr (.long, .inr (.inl x))) ∧ f x := by
  unfold b_al at hf
  split at hf
  · next x e => exact ⟨x, e, hf⟩
  · exact hf.elim
def b_ar (h : xH) (a : Nat) (f : String → List (Option Nat) → Prop) : Prop := match h[a]? with | some (.inr (.object C, .inr (.inr x))) => f C x | _ => False
theorem b_ar_i {h : xH} {a : Nat} {f : String → List (Option Nat) → Prop} {C : String} {x : List (Option Nat)} (hb : h[a]? = some (.inr (.object C, .inr (.inr x)))) (hf : f C x) : b_ar h a f := by unfold b_ar; rw [hb]; exact hf
theorem b_ar_v {h : xH} {a : Nat} {f : String → List (Option Nat) → Prop} (hf : b_ar h a f) : ∃ C x, h[a]? = some (.inr (.object C, .inr (.inr x))) ∧ f C x := by
  unfold b_ar at hf
  split at hf
  · next C x e => exact ⟨C, x, e, hf⟩
  · exact hf.elim
/-- what an element of an array of references is -/
def b_el (v : Option Nat) (f : Nat → Prop) : Prop := match v with | some i => f i | none => False
theorem b_el_i {v : Option Nat} {f : Nat → Prop} {i : Nat} (hv : v = some i) (hf : f i) : b_el v f := by rw [hv]; exact hf
theorem b_el_v {v : Option Nat} {f : Nat → Prop} (hf : b_el v f) : ∃ i, v = some i ∧ f i := by
  cases v with
  | none => exact hf.elim
  | some i => exact ⟨i, rfl, hf⟩
/-- a check that runs -/
def b_ck (b : Bool) (P : Prop) : Prop := match b with | true => P | false => False
theorem b_ck_v {b : Bool} {P : Prop} (h : b_ck b P) : b = true ∧ P := by
  cases b with
  | false => exact h.elim
  | true => exact ⟨rfl, h⟩
/-- a method's tables: instructions, fields (class, place, type), numbers, locals -/
abbrev bP : Type := (Nat → Option Instr) × (Nat → Option (Nat × Nat × FieldType × Bool)) × (Nat → Option Int32) × (Nat → Option Int64) × Nat
def okB (X : xProg) (mi : Nat) (P : bP) : Prop := (∀ pc, xdec X mi pc = P.1 pc) ∧ (∀ idx ci k ty p, P.2.1 idx = some (ci, k, ty, p) → xfld X mi idx = some (ci, k) ∧ xput X mi idx = p ∧ k < xnf X ci ∧ xft X ci k = ty) ∧ (∀ idx v, P.2.2.1 idx = some v → xki X mi idx = some v) ∧ (∀ idx v, P.2.2.2.1 idx = some v → xkl X mi idx = some v) ∧ xml X mi = P.2.2.2.2
noncomputable def frl (l : xL) : (xL → Prop) → Prop := List.rec (motive := fun _ => (xL → Prop) → Prop) (fun k => k []) (fun x _ ih k => ih (fun t => k (x :: t))) l
theorem frl_eq (l : xL) (k : xL → Prop) : frl l k = k l := by
  induction l generalizing k with
  | nil => rfl
  | cons x t ih => exact ih (fun t => k (x :: t))
abbrev bK : Type := Nat → xL → List Value → xH → Prop
def b_fit (ty : FieldType) (v : Value) (P : Prop) : Prop := match ty with
  | .int => (match v with | .int _ => P | _ => False)
  | .array _ => (match v with | .ref _ => P | _ => False)
  | .object _ => (match v with | .ref _ => P | _ => False)
  | ty => b_ok (narrow ty v = v ∧ fits ty v = true) P
theorem b_fit_v {ty : FieldType} {v : Value} {P : Prop} (h : b_fit ty v P) : (narrow ty v = v ∧ fits ty v = true) ∧ P := by
  unfold b_fit at h
  split at h
  · split at h
    · exact ⟨⟨vp_nar_int _, rfl⟩, h⟩
    · exact h.elim
  · split at h
    · exact ⟨⟨rfl, rfl⟩, h⟩
    · exact h.elim
  · split at h
    · exact ⟨⟨rfl, rfl⟩, h⟩
    · exact h.elim
  · exact h
def b_i1 (st : List Value) (f : Int32 → List Value → Prop) : Prop := match st with | .int x :: r => f x r | _ => False
def b_i2 (st : List Value) (f : Int32 → Int32 → List Value → Prop) : Prop := match st with | .int y :: .int x :: r => f x y r | _ => False
def b_l2 (st : List Value) (f : Int64 → Int64 → List Value → Prop) : Prop := match st with | .long y :: .long x :: r => f x y r | _ => False
def b_r1 (st : List Value) (f : Nat → List Value → Prop) : Prop := match st with | .ref x :: r => f x r | _ => False
def b_r2 (st : List Value) (f : Nat → Nat → List Value → Prop) : Prop := match st with | .ref y :: .ref x :: r => f x y r | _ => False
def b_vr (st : List Value) (f : Nat → Value → List Value → Prop) : Prop := match st with | v :: .ref x :: r => f x v r | _ => False
def b_ri (st : List Value) (f : Nat → Int32 → List Value → Prop) : Prop := match st with | .int y :: .ref x :: r => f x y r | _ => False
def b_rii (st : List Value) (f : Nat → Int32 → Int32 → List Value → Prop) : Prop := match st with | .int z :: .int y :: .ref x :: r => f x y z r | _ => False
def b_ril (st : List Value) (f : Nat → Int32 → Int64 → List Value → Prop) : Prop := match st with | .long z :: .int y :: .ref x :: r => f x y z r | _ => False
def b_tg (pc : Nat) (off : Int) (f : Nat → Prop) : Prop := match x_tg pc off with | some t => f t | none => False
def b_c0 (c : ClassFile.Cond) (x : Int32) : Prop := match c with
  | .eq => x = 0
  | .ne => ¬ x = 0
  | .lt => x < 0
  | .ge => 0 ≤ x
  | .gt => 0 < x
  | .le => x ≤ 0
def b_c2 (c : ClassFile.Cond) (x y : Int32) : Prop := match c with
  | .eq => x = y
  | .ne => ¬ x = y
  | .lt => x < y
  | .ge => y ≤ x
  | .gt => y < x
  | .le => x ≤ y
theorem b_c0_t {c : ClassFile.Cond} {x : Int32} : x_c0 c x = true ↔ b_c0 c x := by cases c <;> simp [x_c0, b_c0]
theorem b_c2_t {c : ClassFile.Cond} {x y : Int32} : x_c2 c x y = true ↔ b_c2 c x y := by cases c <;> simp [x_c2, b_c2]
def b_df (o : Option xS) (f : Nat → xL → List Value → Prop) : Prop := match o with
  | some (pc, lv, st) => f pc lv st
  | none => False
def b_gf (P : bP) (idx : Nat) (f : Nat → Nat → FieldType → Bool → Prop) : Prop := match P.2.1 idx with
  | some (ci, k, ty, p) => f ci k ty p
  | none => False
noncomputable def b_st (P : bP) (i : Instr) (pc : Nat) (lv : xL) (st : List Value) (h : xH) (K nx : bK) : Prop := match i with
  | .ifCond c off => b_i1 st (fun x r => b_tg pc off (fun t => b_if (b_c0 c x) (nx t lv r h) (nx (pc + 3) lv r h)))
  | .if_icmp c off => b_i2 st (fun x y r => b_tg pc off (fun t => b_if (b_c2 c x y) (nx t lv r h) (nx (pc + 3) lv r h)))
  | .if_acmp c off => b_r2 st (fun x y r => b_tg pc off (fun t => match c with
    | .eq => b_if (x = y) (nx t lv r h) (nx (pc + 3) lv r h)
    | .ne => b_if (x = y) (nx (pc + 3) lv r h) (nx t lv r h)))
  | .getfield idx => b_r1 st (fun a r => b_gf P idx (fun ci k _ _ => b_ob h a (fun cj vs => b_ck (Nat.beq cj ci) (match vs[k]? with | some v => nx (pc + 3) lv (v :: r) h | none => False))))
  | .putfield idx => b_vr st (fun a v r => b_gf P idx (fun ci k ty p => b_ob h a (fun cj vs => b_ck (Nat.beq cj ci && p) (match vs[k]? with | some _ => b_fit ty v (nx (pc + 3) lv r (h.set a (.inl (cj, vs.set k v)))) | none => False))))
  | .iaload => b_ri st (fun a j r => b_ai h a .int (fun x => b_in j x.length (fun j => nx (pc + 1) lv (.int (x.getD j 0) :: r) h)))
  | .caload => b_ri st (fun a j r => b_ai h a .char (fun x => b_in j x.length (fun j => nx (pc + 1) lv (.int (x.getD j 0) :: r) h)))
  | .baload => b_ri st (fun a j r => b_ai h a .boolean (fun x => b_in j x.length (fun j => nx (pc + 1) lv (.int (x.getD j 0) :: r) h)))
  | .laload => b_ri st (fun a j r => b_al h a (fun x => b_in j x.length (fun j => nx (pc + 1) lv (.long (x.getD j 0) :: r) h)))
  | .aaload => b_ri st (fun a j r => b_ar h a (fun _ x => b_in j x.length (fun j => b_el (x.getD j none) (fun i => nx (pc + 1) lv (.ref i :: r) h))))
  | .iastore => b_rii st (fun a j y r => b_ai h a .int (fun x => b_in j x.length (fun j => nx (pc + 1) lv r (h.set a (.inr (.int, .inl (x.set j y)))))))
  | .castore => b_rii st (fun a j y r => b_ai h a .char (fun x => b_in j x.length (fun j => nx (pc + 1) lv r (h.set a (.inr (.char, .inl (x.set j (vp_nar .char y))))))))
  | .bastore => b_rii st (fun a j y r => b_ai h a .boolean (fun x => b_in j x.length (fun j => nx (pc + 1) lv r (h.set a (.inr (.boolean, .inl (x.set j (vp_nar .boolean y))))))))
  | .lastore => b_ril st (fun a j y r => b_al h a (fun x => b_in j x.length (fun j => nx (pc + 1) lv r (h.set a (.inr (.long, .inr (.inl (x.set j y))))))))
  | .arraylength => b_r1 st (fun a r => match h[a]? with
    | some (.inr (_, .inl x)) => nx (pc + 1) lv (.int (Int32.ofNat x.length) :: r) h
    | some (.inr (_, .inr (.inl x))) => nx (pc + 1) lv (.int (Int32.ofNat x.length) :: r) h
    | some (.inr (_, .inr (.inr x))) => nx (pc + 1) lv (.int (Int32.ofNat x.length) :: r) h
    | _ => False)
  | .idiv => b_i2 st (fun x y r => b_ok (¬ y = 0) (nx (pc + 1) lv (.int (x / y) :: r) h))
  | .irem => b_i2 st (fun x y r => b_ok (¬ y = 0) (nx (pc + 1) lv (.int (x - x / y * y) :: r) h))
  | .ldiv => b_l2 st (fun x y r => b_ok (¬ y = 0) (nx (pc + 1) lv (.long (x / y) :: r) h))
  | .lrem => b_l2 st (fun x y r => b_ok (¬ y = 0) (nx (pc + 1) lv (.long (x - x / y * y) :: r) h))
  | .ldc idx => (match P.2.2.1 idx with | some v => nx (pc + 2) lv (.int v :: st) h | none => False)
  | .ldc2_w idx => (match P.2.2.2.1 idx with | some v => nx (pc + 3) lv (.long v :: st) h | none => False)
  | .bipush k => b_ck (decide ((Int8.ofInt k).toInt32 = cI k)) (b_cI k (fun v => nx (pc + 2) lv (.int v :: st) h))
  | .sipush k => b_ck (decide ((Int16.ofInt k).toInt32 = cI k)) (b_cI k (fun v => nx (pc + 3) lv (.int v :: st) h))
  | .iconst k => b_ck (decide (Int32.ofInt k = cI k)) (b_cI k (fun v => nx (pc + 1) lv (.int v :: st) h))
  | .lconst k => nx (pc + 1) lv (.long (lN (k : Nat)) :: st) h
  | .ireturn => K pc lv st h
  | .lreturn => K pc lv st h
  | .areturn => K pc lv st h
  | .return_ => K pc lv st h
  | .invokevirtual _ => K pc lv st h
  | .invokestatic _ => K pc lv st h
  | .invokespecial _ => K pc lv st h
  | .new _ => K pc lv st h
  | .newarray _ => K pc lv st h
  | .anewarray _ => K pc lv st h
  | .aastore => K pc lv st h
  | .athrow => K pc lv st h
  | i => b_df (x_op P.2.2.2.2 i pc lv st) (fun pc lv st => frl lv (fun lv => nx pc lv st h))
noncomputable def blk (P : bP) (stop : Nat → Bool) (K : bK) (n : Nat) : bK := Nat.rec (motive := fun _ => bK) (fun pc lv st h => K pc lv st h) (fun _ ih pc lv st h => match P.1 pc with
  | none => False
  | some i => b_st P i pc lv st h K (fun pc lv st h => bif stop pc then K pc lv st h else ih pc lv st h)) n
theorem blk_s (P : bP) (stop : Nat → Bool) (K : bK) (n pc : Nat) (lv : xL) (st : List Value) (h : xH) : blk P stop K (n + 1) pc lv st h = (match P.1 pc with
  | none => False
  | some i => b_st P i pc lv st h K (fun pc lv st h => bif stop pc then K pc lv st h else blk P stop K n pc lv st h)) := rfl
