def thT : List (Nat × List (Nat × Nat × Nat × String)) := [(76, [(24, 87, 89, "java/lang/IllegalArgumentException")]), (78, [(10, 87, 89, "java/lang/IllegalArgumentException")]), (98, [(30, 87, 89, "java/lang/IllegalArgumentException")]), (108, [(21, 139, 141, "java/lang/ArithmeticException")]), (135, [(29, 139, 141, "java/lang/ArithmeticException")]), (136, [(24, 87, 89, "java/lang/IllegalArgumentException"), (45, 139, 141, "java/lang/ArithmeticException")]), (145, [(16, 87, 89, "java/lang/IllegalArgumentException")])]
def TH0 : xTh := fun mi pc => (look thT mi).bind (fun l => look l pc)
def thN : List String := ["java/lang/RuntimeException", "java/lang/Exception"]
def thA (own : String) (ic : Nat) (k : String) : Bool := (Bundle.ownAtoms0 own ic k thN).all (fun a => (decide (a ∈ lw_tbl) && goodWord a) || decide (a ∈ thW))
set_option maxRecDepth 100000 in
theorem thA_0 : thA "RootDesk" 89 "java/lang/IllegalArgumentException" = true := by decide +kernel
set_option maxRecDepth 100000 in
theorem thB_0 : (decide (Cond.classLink "RootDesk" 87 "java/lang/IllegalArgumentException" ∈ lw_tbl) && goodWord (Cond.classLink "RootDesk" 87 "java/lang/IllegalArgumentException")) && (decide (Cond.initialized "java/lang/IllegalArgumentException" ∈ lw_tbl) && goodWord (Cond.initialized "java/lang/IllegalArgumentException")) = true := by decide +kernel
set_option maxRecDepth 100000 in
theorem thA_1 : thA "RootDesk" 141 "java/lang/ArithmeticException" = true := by decide +kernel
set_option maxRecDepth 100000 in
theorem thB_1 : (decide (Cond.classLink "RootDesk" 139 "java/lang/ArithmeticException" ∈ lw_tbl) && goodWord (Cond.classLink "RootDesk" 139 "java/lang/ArithmeticException")) && (decide (Cond.initialized "java/lang/ArithmeticException" ∈ lw_tbl) && goodWord (Cond.initialized "java/lang/ArithmeticException")) = true := by decide +kernel
def thL : List (Nat × Nat × Nat × Nat × String) := [(76, 24, 87, 89, "java/lang/IllegalArgumentException"), (78, 10, 87, 89, "java/lang/IllegalArgumentException"), (98, 30, 87, 89, "java/lang/IllegalArgumentException"), (108, 21, 139, 141, "java/lang/ArithmeticException"), (135, 29, 139, 141, "java/lang/ArithmeticException"), (136, 24, 87, 89, "java/lang/IllegalArgumentException"), (136, 45, 139, 141, "java/lang/ArithmeticException"), (145, 16, 87, 89, "java/lang/IllegalArgumentException")]
theorem th_mem {mi pc ia ic : Nat} {k : String} (h : TH0 mi pc = some (ia, ic, k)) : (mi, pc, ia, ic, k) ∈ thL := by
  unfold TH0 at h
  cases hl : look thT mi with
  | none => rw [hl] at h; cases h
  | some l =>
    rw [hl, Option.bind_some] at h
    have h1 := look_mem hl
    have h2 := look_mem h
    simp only [thT, List.mem_cons, List.not_mem_nil, or_false, Prod.mk.injEq] at h1
    rcases h1 with ⟨rfl, rfl⟩ | ⟨rfl, rfl⟩ | ⟨rfl, rfl⟩ | ⟨rfl, rfl⟩ | ⟨rfl, rfl⟩ | ⟨rfl, rfl⟩ | ⟨rfl, rfl⟩
    all_goals (simp only [List.mem_cons, List.not_mem_nil, or_false, Prod.mk.injEq] at h2; simp [thL]; try omega)
    all_goals (first | exact h2 | (obtain ⟨a, b, c, d⟩ := h2; simp [a, b, c, d]) | (rcases h2 with ⟨a, b, c, d⟩ | ⟨a, b, c, d⟩ <;> simp [a, b, c, d]))
def thK (own : String) (ia ic : Nat) (k : String) : Prop := ∃ names : List String, names.length ≤ 3 ∧ Bundle.fit k = true ∧ (∀ n ∈ names, Bundle.fit n = true) ∧
  (∀ a ∈ Bundle.ownAtoms0 own ic k names, a ∈ TB ∨ a ∈ thW) ∧ Cond.classLink own ia k ∈ TB ∧ Cond.initialized k ∈ TB
theorem thK_of {own : String} {ia ic : Nat} {k : String} (hf : Bundle.fit k = true) (hA : thA own ic k = true) (hB : (decide (Cond.classLink own ia k ∈ lw_tbl) && goodWord (Cond.classLink own ia k)) && (decide (Cond.initialized k ∈ lw_tbl) && goodWord (Cond.initialized k)) = true) : thK own ia ic k := by
  simp only [Bool.and_eq_true, decide_eq_true_eq] at hB
  refine ⟨thN, by decide, hf, by decide +kernel, fun a ha => ?_, List.mem_filter.mpr hB.1, List.mem_filter.mpr hB.2⟩
  have h := List.all_eq_true.mp hA a ha
  simp only [Bool.or_eq_true, Bool.and_eq_true, decide_eq_true_eq] at h
  rcases h with h | h
  · exact Or.inl (List.mem_filter.mpr h)
  · exact Or.inr h
theorem thK_0 : thK "RootDesk" 87 89 "java/lang/IllegalArgumentException" := thK_of (by decide +kernel) thA_0 thB_0
theorem thK_1 : thK "RootDesk" 139 141 "java/lang/ArithmeticException" := thK_of (by decide +kernel) thA_1 thB_1
theorem okT_all : okT xB TB TH0 := by
  intro mi pc ia ic k h
  have h := th_mem h
  simp only [thL, List.mem_cons, List.not_mem_nil, or_false, Prod.mk.injEq] at h
  rcases h with ⟨rfl, rfl, rfl, rfl, rfl⟩ | ⟨rfl, rfl, rfl, rfl, rfl⟩ | ⟨rfl, rfl, rfl, rfl, rfl⟩ | ⟨rfl, rfl, rfl, rfl, rfl⟩ | ⟨rfl, rfl, rfl, rfl, rfl⟩ | ⟨rfl, rfl, rfl, rfl, rfl⟩ | ⟨rfl, rfl, rfl, rfl, rfl⟩ | ⟨rfl, rfl, rfl, rfl, rfl⟩
  · exact thK_0
  · exact thK_0
  · exact thK_0
  · exact thK_1
  · exact thK_1
  · exact thK_0
  · exact thK_1
  · exact thK_0
