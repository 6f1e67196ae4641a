/-! the tables of the small machine, held against the Statement's words by the kernel -/
def TB : List Cond := lw_tbl.filter goodWord
def isW (i : Nat) (w : Cond) : Bool := decide (lw_tbl[i]? = some w) && goodWord w
theorem isW_ok {i : Nat} {w : Cond} (h : isW i w = true) : w ∈ TB := by
  unfold isW at h
  rw [Bool.and_eq_true] at h
  exact List.mem_filter.mpr ⟨List.mem_of_getElem? (by simpa using h.1), h.2⟩
theorem TB_good : ∀ w ∈ TB, (w.onTables && w.keeps) = true ∨ ∃ ty, w = .arrayClass ty := fun _ h => good_of_word (List.mem_filter.mp h).2
def look {α : Type} : List (Nat × α) → Nat → Option α
  | [], _ => none
  | q :: l, k => bif Nat.beq q.1 k then some q.2 else look l k
theorem look_mem {α : Type} : ∀ {l : List (Nat × α)} {k : Nat} {v : α}, look l k = some v → (k, v) ∈ l
  | [], _, _, h => by cases h
  | q :: l, k, v, h => by
    unfold look at h
    by_cases e : q.1 = k
    · have e2 : Nat.beq q.1 k = true := by rw [e]; exact Nat.beq_refl k
      rw [e2] at h
      cases h
      rw [← e]
      exact List.mem_cons_self
    · have e2 : Nat.beq q.1 k = false := by
        cases hb : Nat.beq q.1 k
        · rfl
        · exact absurd (Nat.eq_of_beq_eq_true hb) e
      rw [e2] at h
      exact List.mem_cons_of_mem _ (look_mem h)
def codeAt (i : Nat) : ByteArray := match lw_tbl[i]? with
  | some (.code _ cc _ _) => cc
  | _ => ⟨#[]⟩
def isC (i : Nat) (y : MethodName) (ml : Nat) (rt : Option FieldType) : Bool := match lw_tbl[i]? with
  | some (.code y' _ ml' rt') => decide (y' = y) && ((ml' == ml) && decide (rt' = rt))
  | _ => false
theorem isC_ok {i ml : Nat} {y : MethodName} {rt : Option FieldType} (h : isC i y ml rt = true) : Cond.code y (codeAt i) ml rt ∈ TB := by
  unfold isC at h
  split at h
  · next y' cc ml' rt' e1 =>
    simp only [Bool.and_eq_true] at h
    obtain ⟨h1, h2, h3⟩ := h
    have h1 : y' = y := by simpa using h1
    have h2 : ml' = ml := by simpa using h2
    have h3 : rt' = rt := by simpa using h3
    subst h1; subst h2; subst h3
    have e2 : codeAt i = cc := by unfold codeAt; rw [e1]
    rw [e2]
    exact List.mem_filter.mpr ⟨List.mem_of_getElem? e1, by first | rfl | simp [goodWord, Cond.onTables, Cond.keeps, Cond.steady]⟩
  · cases h
def mwA (mi : Nat) : Nat × Nat × Nat × Nat := mwT.getD mi (0, 0, 0, 0)
def xX : xProg := (fun mi pc => look ((deT.getD mi []).getD (pc / 16) []) pc, fun mi i => (look (flT.getD mi []) i).map (fun q => (q.1, q.2.1)), fun mi i => ((look (flT.getD mi []) i).map (fun q => q.2.2.1)).getD false, fun mi i => (look (clT.getD mi []) i).map (fun q => q.1), fun mi i => (look (arT.getD mi []) i).map (fun q => q.1), fun mi i => (look (ivT.getD mi []) i).map (fun q => (q.1, q.2.1)),
  fun mi i => (look (kiT.getD mi []) i).map (fun q => q.1), fun mi i => (look (klT.getD mi []) i).map (fun q => q.1), fun ci => dfT.getD ci [], fun ci k => (ftT.getD ci []).getD k .int, fun ci => nfT.getD ci 0, fun mi => mlT.getD mi 0, fun mi => rtT.getD mi none, fun ci => cnT.getD ci "")
def yA (mi : Nat) : MethodName := yT.getD mi ⟨"", "", ""⟩
def xB : xTab := (yA, fun mi => kdT.getD mi 9, fun mi => codeAt (mwA mi).1)
def isP (v : Value) : Bool := match v with
  | .ref _ => false
  | _ => true
theorem isP_ok : ∀ {l : List Value}, l.all isP = true → ∀ as, vrs as l l
  | [], _, _ => rfl
  | v :: l, h, as => by
    rw [List.all_cons, Bool.and_eq_true] at h
    refine ⟨v, l, rfl, ?_, isP_ok h.2 as⟩
    cases v <;> first | rfl | (cases h.1)
def ckC (ci : Nat) : Bool := match xcl[ci]? with
  | some (C, T, N) => (N == nfT.getD ci 0) && ((List.range N).all (fun k => isW ((cwT.getD ci ([], 0, 0)).1.getD k 0) (u_lay C T k)) && (isW (cwT.getD ci ([], 0, 0)).2.1 (.instantiable C N) && (isW (cwT.getD ci ([], 0, 0)).2.2 (.initialized C) && ((List.range N).all (fun k => decide (parseFieldDescriptor (T k).2.2.1 = some (xft xX ci k))) && ((List.range N).all (fun a => (List.range N).all (fun b => (a == b) || decide ((T a).2.1 ≠ (T b).2.1))) && ((List.range N).all (fun j => decide (defaultValue (xft xX ci j) = vp_V (xdf xX ci) j)) && ((xdf xX ci).all isP && decide (xcn xX ci = C))))))))
  | none => false
theorem rng {N : Nat} {f : Nat → Bool} (h : (List.range N).all f = true) : ∀ k, k < N → f k = true := fun k hk => List.all_eq_true.mp h k (List.mem_range.mpr hk)
theorem ckC_ok {ci : Nat} (h : ckC ci = true) {C : String} {T : u_T} {N : Nat} (hc : xcl[ci]? = some (C, T, N)) : N = xnf xX ci ∧ (∀ w ∈ u_ws C T N, w ∈ TB) ∧ Cond.instantiable C N ∈ TB ∧ Cond.initialized C ∈ TB ∧ (∀ k, k < N → parseFieldDescriptor (T k).2.2.1 = some (xft xX ci k)) ∧ (∀ a, a < N → ∀ b, b < N → a ≠ b → (T a).2.1 ≠ (T b).2.1) ∧ (∀ j, j < N → defaultValue (xft xX ci j) = vp_V (xdf xX ci) j) ∧ (∀ as, vrs as (xdf xX ci) (xdf xX ci)) ∧ xcn xX ci = C := by
  unfold ckC at h
  rw [hc] at h
  simp only [Bool.and_eq_true] at h
  obtain ⟨h1, h2, h3, h4, h5, h6, h7, h8, h9⟩ := h
  refine ⟨eq_of_beq h1, fun w hw => ?_, isW_ok h3, isW_ok h4, fun k hk => of_decide_eq_true (rng h5 k hk), fun a ha b hb hne => ?_, fun j hj => of_decide_eq_true (rng h7 j hj), isP_ok h8, of_decide_eq_true h9⟩
  · obtain ⟨k, hk, rfl⟩ := List.mem_map.mp hw
    exact isW_ok (rng h2 k (List.mem_range.mp hk))
  · have := rng (rng h6 a ha) b hb
    simp only [Bool.or_eq_true, beq_iff_eq, decide_eq_true_eq] at this
    exact this.resolve_left hne
def ckI (own : String) (idx mj n j : Nat) : Bool := isW (mwA mj).2.1 (.initialized (yA mj).cls) && (decide ((yA mj).cls ≠ "java/lang/invoke/MethodHandle") && (decide ((yA mj).cls ≠ "java/lang/invoke/VarHandle") && (decide ((parseMethodDescriptor (yA mj).desc).map (fun d => d.parameters.length) = some n) && ((isW j (.methodLink own idx (yA mj)) || ((kdT.getD mj 9 == 2) && xNN.2.any (fun q => decide (q.1 = own) && ((q.2.1 == idx) && decide (q.2.2.1 = yA mj))))) && (match kdT.getD mj 9 with
  | 0 => isW (mwA mj).2.2.1 (.instanceMethod (yA mj)) && isW (mwA mj).2.2.2 (.selects (yA mj).cls (yA mj) (yA mj))
  | 1 => isW (mwA mj).2.2.1 (.static (yA mj))
  | 2 => isW (mwA mj).2.2.1 (.instanceMethod (yA mj)) && (decide ((yA mj).name = "<init>") && decide (xrt xX mj = none))
  | _ => false)))))
theorem ckI_ok {own : String} {idx mj n j : Nat} (h : ckI own idx mj n j = true) : okI xX xB TB xNN own idx mj n := by
  unfold ckI at h
  simp only [Bool.and_eq_true, Bool.or_eq_true] at h
  obtain ⟨h1, h2, h3, h4, h5, h6⟩ := h
  refine ⟨isW_ok h1, ⟨of_decide_eq_true h2, of_decide_eq_true h3, of_decide_eq_true h4⟩, ?_, fun hk => ?_, fun hk => ?_, fun hk => ?_⟩
  · rcases h5 with z | ⟨z1, z2⟩
    · exact Or.inl (isW_ok z)
    · obtain ⟨q, hq, z3⟩ := List.any_eq_true.mp z2
      simp only [Bool.and_eq_true, decide_eq_true_eq, beq_iff_eq] at z3
      obtain ⟨q1, q2, q3, q4⟩ := q
      obtain ⟨e1, e2, e3⟩ := z3
      have e1 : q1 = own := e1
      have e2 : q2 = idx := e2
      have e3 : q3 = yA mj := e3
      subst e1; subst e2; subst e3
      exact Or.inr ⟨eq_of_beq z1, q4, hq⟩
  · have hk : kdT.getD mj 9 = 0 := hk
    rw [hk] at h6
    simp only [Bool.and_eq_true] at h6
    exact ⟨isW_ok h6.1, isW_ok h6.2⟩
  · have hk : kdT.getD mj 9 = 1 := hk
    rw [hk] at h6
    exact isW_ok h6
  · have hk : kdT.getD mj 9 = 2 := hk
    rw [hk] at h6
    simp only [Bool.and_eq_true, decide_eq_true_eq] at h6
    exact ⟨isW_ok h6.1, h6.2.1, h6.2.2⟩
def ckM (mi : Nat) : Bool := plainName (yA mi).cls && ((deT.getD mi []).all (fun b => b.all (fun q => decide (decode (codeAt (mwA mi).1) q.1 = .ok (q.2, x_len q.2)))) && ((flT.getD mi []).all (fun q => match xcl[q.2.1]? with
    | some (_, T, N) => Nat.blt q.2.2.1 N && (isW q.2.2.2.2 (.fieldLink (yA mi).cls q.1 (T q.2.2.1).1 (T q.2.2.1).2.1 (T q.2.2.1).2.2.1) && (!q.2.2.2.1 || (!(T q.2.2.1).2.2.2 || (decide ((yA mi).name = "<init>") && decide ((T q.2.2.1).1 = (yA mi).cls)))))
    | none => false) && ((clT.getD mi []).all (fun q => match xcl[q.2.1]? with
    | some (C, _, _) => isW q.2.2 (.classLink (yA mi).cls q.1 C)
    | none => false) && ((arT.getD mi []).all (fun q => isW q.2.2 (.classLink (yA mi).cls q.1 q.2.1) && xNN.1.any (fun C => decide (C = q.2.1))) && ((kiT.getD mi []).all (fun q => isW q.2.2 (.constant (yA mi).cls q.1 q.2.1)) && ((klT.getD mi []).all (fun q => isW q.2.2 (.constantLong (yA mi).cls q.1 q.2.1)) && (isC (mwA mi).1 (yA mi) (xml xX mi) (xrt xX mi) && (ivT.getD mi []).all (fun q => match q.2.1 with
    | none => bif Nat.beq q.2.2.1 0 then isW q.2.2.2 (.methodLink (yA mi).cls q.1 objectInit) else bif Nat.beq q.2.2.1 10 then isW q.2.2.2 (.methodLink (yA mi).cls q.1 Lib.Math.max.name) else bif Nat.beq q.2.2.1 11 then isW q.2.2.2 (.methodLink (yA mi).cls q.1 Lib.Math.min.name) else isW q.2.2.2 (.methodLink (yA mi).cls q.1 Lib.Math.abs.name)
    | some mj => Nat.blt mj nM && ckI (yA mi).cls q.1 mj q.2.2.1 q.2.2.2))))))))
def mathOK : Prop := Cond.initialized "java/lang/Math" ∈ TB ∧ (Cond.static Lib.Math.max.name ∈ TB ∧ Cond.code Lib.Math.max.name Lib.Math.max.code 2 (some .int) ∈ TB) ∧ (Cond.static Lib.Math.min.name ∈ TB ∧ Cond.code Lib.Math.min.name Lib.Math.min.code 2 (some .int) ∈ TB) ∧ (Cond.static Lib.Math.abs.name ∈ TB ∧ Cond.code Lib.Math.abs.name Lib.Math.abs.code 1 (some .int) ∈ TB)
theorem ckM_ok {mi : Nat} (h : ckM mi = true) (hob : Cond.instanceMethod objectInit ∈ TB ∧ Cond.code objectInit ⟨#[0xb1]⟩ 1 none ∈ TB) (hmt : mathOK) : okM xX xB TB xcl xNN (fun i => i < nM) mi := by
  unfold ckM at h
  simp only [Bool.and_eq_true] at h
  obtain ⟨h1, h2, h3, h4, h5, h6, h7, h8, h9⟩ := h
  refine ⟨h1, ⟨fun pc i hi => ?_, fun idx ci k hf => ?_, fun idx ci hf => ?_, fun idx C hf => ?_, fun idx v hf => ?_, fun idx v hf => ?_⟩, isC_ok h8, fun idx n hf => ?_, fun idx mj n hf => ?_⟩
  · have hi : look ((deT.getD mi []).getD (pc / 16) []) pc = some i := hi
    cases hb : (deT.getD mi [])[pc / 16]? with
    | none => rw [List.getD, hb] at hi; cases hi
    | some b =>
      rw [List.getD, hb] at hi
      have := List.all_eq_true.mp (List.all_eq_true.mp h2 _ (List.mem_of_getElem? hb)) _ (look_mem hi)
      exact of_decide_eq_true this
  · have hf : (look (flT.getD mi []) idx).map (fun q => (q.1, q.2.1)) = some (ci, k) := hf
    cases hq : look (flT.getD mi []) idx with
    | none => rw [hq] at hf; cases hf
    | some q =>
      rw [hq] at hf
      cases hf
      have := List.all_eq_true.mp h3 _ (look_mem hq)
      cases hc : xcl[q.1]? with
      | none => simp only [hc] at this; cases this
      | some r =>
        obtain ⟨C, T, N⟩ := r
        simp only [hc, Bool.and_eq_true, Bool.or_eq_true, Bool.not_eq_true', decide_eq_true_eq] at this
        refine ⟨C, T, N, rfl, fun hk => ⟨isW_ok this.2.1, fun hput => ?_⟩⟩
        have hput : ((look (flT.getD mi []) idx).map (fun q => q.2.2.1)).getD false = true := hput
        rw [hq] at hput
        have hput : q.2.2.1 = true := hput
        rcases this.2.2 with z | z | z
        · rw [hput] at z; cases z
        · exact Or.inl z
        · cases hfin : (T q.2.1).2.2.2
          · exact Or.inl rfl
          · exact Or.inr ⟨rfl, z.1, z.2⟩
  · have hf : (look (clT.getD mi []) idx).map (fun q => q.1) = some ci := hf
    cases hq : look (clT.getD mi []) idx with
    | none => rw [hq] at hf; cases hf
    | some q =>
      rw [hq] at hf
      cases hf
      have := List.all_eq_true.mp h4 _ (look_mem hq)
      cases hc : xcl[q.1]? with
      | none => simp only [hc] at this; cases this
      | some r =>
        obtain ⟨C, T, N⟩ := r
        simp only [hc] at this
        exact ⟨C, T, N, rfl, isW_ok this⟩
  · have hf : (look (arT.getD mi []) idx).map (fun q => q.1) = some C := hf
    cases hq : look (arT.getD mi []) idx with
    | none => rw [hq] at hf; cases hf
    | some q =>
      rw [hq] at hf
      cases hf
      have := List.all_eq_true.mp h5 _ (look_mem hq)
      simp only [Bool.and_eq_true] at this
      obtain ⟨C, hC, z⟩ := List.any_eq_true.mp this.2
      have z : C = q.1 := by simpa using z
      exact ⟨isW_ok this.1, by show q.1 ∈ xNN.1; rw [← z]; exact hC⟩
  · have hf : (look (kiT.getD mi []) idx).map (fun q => q.1) = some v := hf
    cases hq : look (kiT.getD mi []) idx with
    | none => rw [hq] at hf; cases hf
    | some q =>
      rw [hq] at hf
      cases hf
      exact isW_ok (List.all_eq_true.mp h6 _ (look_mem hq))
  · have hf : (look (klT.getD mi []) idx).map (fun q => q.1) = some v := hf
    cases hq : look (klT.getD mi []) idx with
    | none => rw [hq] at hf; cases hf
    | some q =>
      rw [hq] at hf
      cases hf
      exact isW_ok (List.all_eq_true.mp h7 _ (look_mem hq))
  · have hf : (look (ivT.getD mi []) idx).map (fun q => (q.1, q.2.1)) = some (none, n) := hf
    cases hq : look (ivT.getD mi []) idx with
    | none => rw [hq] at hf; cases hf
    | some q =>
      rw [hq] at hf
      obtain ⟨q1, q2, q3⟩ := q
      cases hf
      have this := List.all_eq_true.mp h9 _ (look_mem hq)
      dsimp only at this
      obtain ⟨t1, ⟨t2, t3⟩, ⟨t4, t5⟩, ⟨t6, t7⟩⟩ := hmt
      refine ⟨fun e1 => ?_, fun e1 => ?_, fun e1 => ?_, fun e1 => ?_⟩
      · subst e1; exact ⟨isW_ok this, hob⟩
      · subst e1; exact ⟨isW_ok this, t2, t1, t3⟩
      · subst e1; exact ⟨isW_ok this, t4, t1, t5⟩
      · subst e1; exact ⟨isW_ok this, t6, t1, t7⟩
  · have hf : (look (ivT.getD mi []) idx).map (fun q => (q.1, q.2.1)) = some (some mj, n) := hf
    cases hq : look (ivT.getD mi []) idx with
    | none => rw [hq] at hf; cases hf
    | some q =>
      rw [hq] at hf
      obtain ⟨q1, q2, q3⟩ := q
      cases hf
      have := List.all_eq_true.mp h9 _ (look_mem hq)
      simp only [Bool.and_eq_true] at this
      exact ⟨Nat.le_of_ble_eq_true this.1, ckI_ok this.2⟩
